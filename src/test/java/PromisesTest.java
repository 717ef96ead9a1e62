/** Each promise by itself: ordinary inputs, edges and wrong inputs, with answers counted by hand. */
public final class PromisesTest {
    private static final int BAD = -1000001, STATE = -1000002, FULL = -1000003, NONE = -1000009;
    private static final int FAR = Integer.MAX_VALUE, DEEP = Integer.MIN_VALUE;

    /** Alone: 8, 12, 14, 15, 15 late by lines. */
    private static final String ALONE = "p60 5 9 3;";
    /** Late by lines: 2 and 3, 5 and 5, 7 and 6. */
    private static final String TWO = "p0 0 5 0;p30 5 5 0;";
    /** They hear nothing and go by habit alone, 0, 2 and 5 a line. */
    private static final String DEAF = "p0 0 0 0;p30 0 0 2;p60 0 0 5;";

    private static int wrong = 0;
    private static String promise = "";

    private static void due(String call, long got, long want) {
        if (got != want) {
            wrong++;
            System.out.println(promise + ": " + call + " answered " + got + ", due is " + want);
        }
    }

    private static void type(BehindOrgan x, String text) {
        for (int i = 0; i < text.length(); i++) {
            x.type(text.charAt(i));
        }
    }

    private static BehindOrgan church(String text) {
        BehindOrgan x = new BehindOrgan();
        type(x, text);
        if (x.church() < 0) {
            due("church of " + text, -1, 0);
        }
        return x;
    }

    private static int fault(String text) {
        BehindOrgan x = new BehindOrgan();
        type(x, text);
        return x.church();
    }

    private static void lines(BehindOrgan x, int n) {
        for (int i = 0; i < n; i++) {
            x.line();
        }
    }

    private static void lates(String where, BehindOrgan x, int... want) {
        for (int k = 0; k < want.length; k++) {
            due(where + ", pew(" + k + ", 4)", x.pew(k, 4), want[k]);
        }
    }

    public static void main(String[] args) {
        newObject();
        text();
        churchItems();
        churchFaults();
        churchAnew();
        pew();
        now();
        line();
        lineEdges();
        lineLimit();
        verse();
        done();
        undo();
        behind();
        asleepAndRest();
        playAhead();
        seat();
        knowers();
        pulls();
        change();
        gaps();
        hearAndWaited();
        odds();
        rate();
        images();
        System.out.println(wrong == 0 ? "all answers are as due" : wrong + " answers are not as due");
        if (wrong != 0) {
            System.exit(1);
        }
    }

    private static void newObject() {
        promise = "1 a new object";
        BehindOrgan x = new BehindOrgan();
        int[] counts = {0, 4, 2, 0, 0};
        for (int i = 0; i < counts.length; i++) {
            due("count(" + i + ")", x.count(i), counts[i]);
        }
        int[] nows = {0, 0, 0, NONE, 0, 0, 0};
        for (int i = 0; i < nows.length; i++) {
            due("now(" + i + ")", x.now(i), nows[i]);
        }
        due("trace()", x.trace(), 0);
        due("pew(0, 0)", x.pew(0, 0), BAD);
        due("back(0)", x.back(0), STATE);
        due("waited()", x.waited(), 2047);
    }

    private static void text() {
        promise = "2 type, 3 clear, 30 count";
        BehindOrgan x = new BehindOrgan();
        due("clear()", x.clear(), 0);
        due("type(0)", x.type(0), 1);
        due("type(255)", x.type(255), 2);
        due("type(-1)", x.type(-1), BAD);
        due("type(256)", x.type(256), BAD);
        due("type(FAR)", x.type(FAR), BAD);
        due("count(4)", x.count(4), 2);
        for (int i = 3; i <= 200; i++) {
            due("type(32)", x.type(32), i);
        }
        due("type(32) of a full text", x.type(32), FULL);
        due("type(256) of a full text", x.type(256), BAD);
        due("count(4)", x.count(4), 200);
        due("clear()", x.clear(), 200);
        due("count(4)", x.count(4), 0);
        due("count(5)", x.count(5), BAD);
        due("count(-1)", x.count(-1), BAD);
        BehindOrgan y = church(TWO + "l9;g0;");
        due("count(0)", y.count(0), 2);
        due("count(1)", y.count(1), 9);
        due("count(2)", y.count(2), 0);
        y.hear(1, 0, 0);
        due("count(3)", y.count(3), 1);
    }

    private static void churchItems() {
        promise = "4 church";
        due("nothing", fault(""), 0);
        due("blanks", fault("   "), 0);
        due("one", fault("w10;"), 1);
        due("no blanks but between numbers", fault("p0 0 0 0;w0;l1;g0;"), 4);
        due("blanks all over", fault("  p  60  9  9  9  ;  g 9 ; l 9 ;w  10;  "), 4);
        due("200 blanks", fault(" ".repeat(200)), 0);
        due("200 letters, a number last", fault(" ".repeat(198) + "w7"), -210);
        due("six pews", fault("p0 0 0 0;p0 0 0 0;p0 0 0 0;p0 0 0 0;p0 0 0 0;p0 0 0 0;"), 6);
    }

    private static void churchFaults() {
        promise = "4 church, FAULT";
        String[] texts = {"x", " ;", "7;", "p;", "pp", "p61 0 0 0;", "p0 10 0 0;", "p0 0 10 0;", "p0 0 0 10;",
            "p0 0 0;", "p0 0 0 0 0;", "w;", "w11;", "l0;", "l10;", "g10;", "w1;w1;", "l1;l1;", "g1;g1;", "w00;",
            "w01;", "w100;", "w99999999999999999999;", "w4294967301;", "w1,", "W1;", "w1;;", "w1 1;", "w1w", "w-1;",
            "w;x", "p100 0 0 0;", "p 060 0 0 0;", "w1;\t", "w 1 x"};
        int[] places = {0, 1, 0, 1, 1, 1, 3, 5, 7,
            6, 9, 1, 1, 1, 1, 1, 3, 3, 3, 1,
            1, 1, 1, 1, 2, 0, 3, 3, 2, 1,
            1, 1, 2, 3, 4};
        for (int i = 0; i < texts.length; i++) {
            due("\"" + texts[i] + "\"", fault(texts[i]), -10 - places[i]);
        }
        String[] early = {"p", "p0", "p0 0 0 0", "p0 0 0 0  ", "w", "w 5 ", "w1;l", "g0;l3"};
        for (String text : early) {
            due("\"" + text + "\"", fault(text), -10 - text.length());
        }
        due("a seventh pew", fault("p0 0 0 0;p0 0 0 0;p0 0 0 0;p0 0 0 0;p0 0 0 0;p0 0 0 0; p0 0 0 0;"), -65);
    }

    private static void churchAnew() {
        promise = "4 church, anew";
        BehindOrgan x = church(ALONE + "w5;l3;g1;");
        lines(x, 2);
        x.ahead(3);
        x.choir(0);
        x.knows(0, 1);
        x.hear(1, 0, 4);
        x.keep(0);
        x.rate(0, 0);
        type(x, "w1;w");
        due("a fault", x.church(), -13);
        due("letters behind a fault", x.count(4), 4);
        due("pews behind a fault", x.count(0), 1);
        due("WAIT behind a fault", x.now(4), 5);
        due("lines behind a fault", x.now(0), 2);
        due("undoable behind a fault", x.now(6), 5);
        due("HEARD behind a fault", x.count(3), 1);
        x.clear();
        type(x, "p12 1 2 3;w7;l4;g2;");
        due("church()", x.church(), 4);
        int[] nows = {0, 0, 0, NONE, 7, 0, 0};
        for (int i = 0; i < nows.length; i++) {
            due("now(" + i + ")", x.now(i), nows[i]);
        }
        int[] counts = {1, 4, 2, 0, 0};
        for (int i = 0; i < counts.length; i++) {
            due("count(" + i + ")", x.count(i), counts[i]);
        }
        int[] pews = {12, 1, 2, 3, 0, 2, 0};
        for (int i = 0; i < pews.length; i++) {
            due("pew(0, " + i + ")", x.pew(0, i), pews[i]);
        }
        due("back(0)", x.back(0), STATE);
        due("undo()", x.undo(), STATE);
        due("trace() goes on", x.trace(), 1);
        due("church() of nothing", x.church(), 0);
        due("no pews", x.count(0), 0);
        due("WAIT", x.now(4), 0);
    }

    private static void pew() {
        promise = "5 pew";
        BehindOrgan x = church("p5 9 8 7;p59 1 2 3;");
        int[] first = {5, 9, 8, 7, 0, 0, 0};
        int[] second = {59, 1, 2, 3, 0, 9, 0};
        for (int i = 0; i < 7; i++) {
            due("pew(0, " + i + ")", x.pew(0, i), first[i]);
            due("pew(1, " + i + ")", x.pew(1, i), second[i]);
        }
        x.knows(1, 1);
        due("pew(1, 6)", x.pew(1, 6), 1);
        due("pew(0, 6)", x.pew(0, 6), 0);
        due("HABIT as told of one that knows it", x.pew(1, 3), 3);
        due("pew(2, 0)", x.pew(2, 0), BAD);
        due("pew(-1, 0)", x.pew(-1, 0), BAD);
        due("pew(0, 7)", x.pew(0, 7), BAD);
        due("pew(0, -1)", x.pew(0, -1), BAD);
        due("pew(FAR, DEEP)", x.pew(FAR, DEEP), BAD);
    }

    private static void now() {
        promise = "6 now";
        BehindOrgan x = church(DEAF + "w5;");
        x.ahead(7);
        x.choir(2);
        x.waits(0);
        lines(x, 3);
        int[] nows = {3, 0, 7, 2, 0, 6, 6};
        for (int i = 0; i < nows.length; i++) {
            due("now(" + i + ")", x.now(i), nows[i]);
        }
        due("now(7)", x.now(7), BAD);
        due("now(-1)", x.now(-1), BAD);
    }

    private static void line() {
        promise = "7 line";
        BehindOrgan x = church(ALONE);
        int[] alone = {8, 12, 14, 15, 15};
        for (int late : alone) {
            due("line()", x.line(), 0);
            lates("alone", x, late);
        }
        BehindOrgan y = church(TWO);
        y.line();
        lates("two, one line", y, 2, 3);
        y.line();
        lates("two, two lines", y, 5, 5);
        y.line();
        lates("two, three lines", y, 7, 6);
        // Cut towards 0: -50 / 10 + 3, -60 / 10 + 3, -65 / 10 + 3.
        BehindOrgan z = church(ALONE);
        z.ahead(20);
        int[] early = {-2, -3, -3};
        for (int late : early) {
            z.line();
            lates("ahead 20", z, late);
        }
        // Half of 8, of 10, of 10.
        BehindOrgan w = church(ALONE + "w5;");
        due("line()", w.line(), 4);
        lates("w5", w, 4);
        due("line()", w.line(), 9);
        lates("w5", w, 5);
        due("line()", w.line(), 14);
        lates("w5", w, 5);
        // The middle one has (0 + 2 + 0 + 3) / 2 beside it, cut: 9 times 2 by 14.
        BehindOrgan m = church("p0 0 0 0;p12 0 9 0;p30 0 0 0;");
        m.line();
        lates("middle", m, 0, 1, 0);
        due("line() of no pews", new BehindOrgan().line(), 0);
    }

    private static void lineEdges() {
        promise = "7 line, edges";
        // The mean is cut ahead of WAIT: 7 / 3 is 2, 2 times 9 by 10 is 1.
        BehindOrgan x = church(DEAF + "w9;");
        due("line()", x.line(), 1);
        lates("mean", x, -1, 1, 4);
        // A mean that is not above 0: he does not wait.
        BehindOrgan e = church("p0 9 0 0;w10;");
        e.ahead(20);
        due("line() when they are early", e.line(), 0);
        lates("early", e, -12);
        // The choir's 0 is what its neighbours hear a line later, and he waits for all.
        BehindOrgan c = church(DEAF + "w10;");
        c.choir(2);
        due("line()", c.line(), 0);
        lates("choir", c, 0, 2, 0);
        due("line()", c.line(), 1);
        lates("choir", c, -1, 3, -1);
        // Who knows it has no habit.
        BehindOrgan k = church(DEAF);
        k.knows(2, 1);
        k.line();
        lates("knows", k, 0, 2, 0);
    }

    private static void lineLimit() {
        promise = "7 line, limits";
        BehindOrgan x = church("p0 0 0 9;");
        lines(x, 110);
        lates("110 lines", x, 990);
        x.line();
        lates("111 lines", x, 999);
        x.line();
        lates("112 lines", x, 999);
        // One without habit, five with 9: he waits 45 / 6, 7 ticks; -99 holds ahead of the wait only.
        BehindOrgan y = church("p0 0 0 0;p0 0 0 9;p0 0 0 9;p0 0 0 9;p0 0 0 9;p0 0 0 9;w10;");
        lines(y, 1);
        lates("a line", y, -7, 2);
        int deepest = 0;
        int wasBelow = 0;
        for (int i = 0; i < 200; i++) {
            int was = y.pew(0, 4);
            int pace = y.now(1);
            y.line();
            int ticks = y.now(1) - pace;
            int want = Math.max(-99, was) - ticks;
            due("the one who is early", y.pew(0, 4), want);
            deepest = Math.min(deepest, y.pew(0, 4));
            wasBelow += was < -99 ? 1 : 0;
        }
        due("it was below -99", deepest < -99 && wasBelow > 0 ? 1 : 0, 1);
        // 15 ticks a line (run 2 of the shared tests), 9 lines a verse: 9990 behind 74 verses.
        BehindOrgan p = church("p60 9 9 9;w10;l9;");
        for (int i = 0; i < 74; i++) {
            p.verse();
        }
        due("now(1)", p.now(1), 9990);
        due("line()", p.line(), 9999);
        lates("PACE is full", p, 0);
        due("line()", p.line(), 9999);
        due("asleep(9999)", p.asleep(9999), 0);
        BehindOrgan s = church("l9;");
        for (int i = 0; i < 110; i++) {
            s.verse();
        }
        lines(s, 8);
        due("now(0)", s.now(0), 998);
        due("verse() beyond 999", s.verse(), STATE);
        due("line()", s.line(), 0);
        int known = s.now(6);
        due("line() behind 999", s.line(), STATE);
        due("nothing more to undo", s.now(6), known);
        due("now(0)", s.now(0), 999);
        due("behind(60, -2) behind 999", s.behind(60, -2), 0);
    }

    private static void verse() {
        promise = "8 verse";
        BehindOrgan x = church(ALONE);
        due("verse()", x.verse(), 0);
        lates("15 by 3", x, 5);
        due("now(0)", x.now(0), 4);
        due("now(6)", x.now(6), 1);
        BehindOrgan g = church(ALONE + "g0;l2;");
        g.verse();
        lates("GAP 0, two lines", g, 12);
        due("now(0)", g.now(0), 2);
        // -3 by 2 is cut towards 0.
        BehindOrgan e = church(ALONE + "g1;l3;");
        e.ahead(20);
        e.verse();
        lates("early", e, -1);
        BehindOrgan w = church(ALONE + "w5;l3;g9;");
        due("verse()", w.verse(), 14);
        lates("5 by 10", w, 0);
        BehindOrgan s = church("l9;");
        for (int i = 0; i < 111; i++) {
            due("verse()", s.verse(), 0);
        }
        due("now(0)", s.now(0), 999);
        due("verse() behind 999", s.verse(), STATE);
    }

    private static void done() {
        promise = "9 ahead";
        BehindOrgan x = church(TWO);
        due("ahead(20)", x.ahead(20), 0);
        due("ahead(0)", x.ahead(0), 20);
        due("ahead(0)", x.ahead(0), 0);
        due("ahead(21)", x.ahead(21), BAD);
        due("ahead(-1)", x.ahead(-1), BAD);
        due("now(6)", x.now(6), 3);
        promise = "10 choir";
        due("choir(1)", x.choir(1), NONE);
        due("choir(0)", x.choir(0), 1);
        due("choir(2)", x.choir(2), BAD);
        due("choir(-1)", x.choir(-1), BAD);
        due("choir(NONE)", x.choir(NONE), 0);
        due("choir(NONE)", x.choir(NONE), NONE);
        due("choir(BAD)", x.choir(BAD), BAD);
        due("now(6)", x.now(6), 7);
        promise = "11 knows";
        due("knows(1, 1)", x.knows(1, 1), 1);
        due("knows(0, 1)", x.knows(0, 1), 2);
        due("knows(0, 1)", x.knows(0, 1), 2);
        due("knows(1, 0)", x.knows(1, 0), 1);
        due("knows(2, 1)", x.knows(2, 1), BAD);
        due("knows(-1, 1)", x.knows(-1, 1), BAD);
        due("knows(32, 1)", x.knows(32, 1), BAD);
        due("knows(0, 2)", x.knows(0, 2), BAD);
        due("knows(0, -1)", x.knows(0, -1), BAD);
        promise = "12 waits";
        due("waits(10)", x.waits(10), 0);
        due("waits(0)", x.waits(0), 10);
        due("waits(11)", x.waits(11), BAD);
        due("waits(-1)", x.waits(-1), BAD);
    }

    private static void undo() {
        promise = "13 undo";
        BehindOrgan x = church(ALONE + "w5;");
        due("undo()", x.undo(), STATE);
        x.line();
        x.verse();
        x.ahead(9);
        x.choir(0);
        x.knows(0, 1);
        x.waits(2);
        x.ahead(99);
        due("now(6)", x.now(6), 6);
        due("undo() of waits", x.undo(), 5);
        due("now(4)", x.now(4), 5);
        due("undo() of knows", x.undo(), 4);
        due("pew(0, 6)", x.pew(0, 6), 0);
        due("undo() of choir", x.undo(), 3);
        due("now(3)", x.now(3), NONE);
        due("undo() of ahead", x.undo(), 2);
        due("now(2)", x.now(2), 0);
        due("undo() of verse", x.undo(), 1);
        due("now(0)", x.now(0), 1);
        due("now(1)", x.now(1), 4);
        lates("a line", x, 4);
        due("undo() of line", x.undo(), 0);
        due("now(0)", x.now(0), 0);
        lates("nothing", x, 0);
        due("undo()", x.undo(), STATE);
        for (int a = 1; a <= 13; a++) {
            x.ahead(a);
        }
        due("now(6)", x.now(6), 10);
        for (int i = 9; i >= 0; i--) {
            due("undo()", x.undo(), i);
            due("now(2)", x.now(2), i + 3);
        }
        due("undo() of what is lost", x.undo(), STATE);
    }

    private static void behind() {
        promise = "14 behind";
        BehindOrgan x = church(TWO);
        int[] first = {0, 2, 5, 7};
        int[] second = {0, 3, 5, 6};
        int[] apart = {0, 1, 0, 1};
        for (int n = 0; n <= 3; n++) {
            due("behind(" + n + ", 0)", x.behind(n, 0), first[n]);
            due("behind(" + n + ", 1)", x.behind(n, 1), second[n]);
            due("behind(" + n + ", -2)", x.behind(n, -2), apart[n]);
        }
        lates("nothing changed", x, 0, 0);
        due("now(0)", x.now(0), 0);
        due("now(6)", x.now(6), 0);
        BehindOrgan w = church(ALONE + "w5;");
        due("behind(3, -1)", w.behind(3, -1), 14);
        w.line();
        due("behind(2, -1)", w.behind(2, -1), 14);
        BehindOrgan d = church(DEAF);
        due("behind(60, 2)", d.behind(60, 2), 300);
        due("behind(60, -2)", d.behind(60, -2), 300);
        due("behind(61, 0)", x.behind(61, 0), BAD);
        due("behind(-1, 0)", x.behind(-1, 0), BAD);
        due("behind(0, 2)", x.behind(0, 2), BAD);
        due("behind(0, -3)", x.behind(0, -3), BAD);
        due("behind(0, 0) of no pews", new BehindOrgan().behind(0, 0), BAD);
    }

    private static void asleepAndRest() {
        promise = "15 asleep";
        BehindOrgan w = church(ALONE + "w5;");
        int[] paces = {1, 4, 5, 9, 10, 14, 15};
        int[] lines = {1, 1, 2, 2, 3, 3, 4};
        for (int i = 0; i < paces.length; i++) {
            due("asleep(" + paces[i] + ")", w.asleep(paces[i]), lines[i]);
        }
        // 4 and 59 times 5.
        due("asleep(299)", w.asleep(299), 60);
        due("asleep(300)", w.asleep(300), NONE);
        due("asleep(9999)", w.asleep(9999), NONE);
        w.line();
        due("asleep(4)", w.asleep(4), 0);
        due("asleep(0)", w.asleep(0), BAD);
        due("asleep(10000)", w.asleep(10000), BAD);
        due("asleep(-1)", w.asleep(-1), BAD);
        promise = "16 rest";
        due("rest()", w.rest(), 1);
        BehindOrgan x = church(ALONE);
        due("rest()", x.rest(), 4);
        x.ahead(20);
        due("rest()", x.rest(), 2);
        due("rest() of those who never do", church(DEAF).rest(), NONE);
        // 999 behind 111 lines: 60 before that it can just be seen.
        BehindOrgan d = church("p0 0 0 9;");
        lines(d, 50);
        due("rest() too far", d.rest(), NONE);
        d.line();
        due("rest() at 60", d.rest(), 60);
        d.line();
        due("rest() at 59", d.rest(), 59);
        due("now(0)", d.now(0), 52);
    }

    private static void playAhead() {
        promise = "17 playAhead";
        // Behind a line: 9 times (10 less a) by 14, and 3: none late by a = 15 (-45 / 14 and 3).
        BehindOrgan x = church("p60 9 0 3;");
        due("playAhead(1, 0)", x.playAhead(1, 0), 15);
        due("playAhead(1, 1)", x.playAhead(1, 1), 0);
        due("now(2)", x.now(2), 0);
        // 9 times (10 less 20) by 14, and 9: the farthest ahead is the best.
        BehindOrgan f = church("p60 9 0 9;");
        due("playAhead(1, 0)", f.playAhead(1, 0), 20);
        due("playAhead(1, 1)", f.playAhead(1, 1), 3);
        // All that he plays is 2 at least: he can't be early enough, the least is told.
        BehindOrgan y = church("p0 0 0 2;");
        due("playAhead(3, 0)", y.playAhead(3, 0), 0);
        due("playAhead(3, 1)", y.playAhead(3, 1), 6);
        // Without sign: from -2 times 9 by 14 on they are ahead by more than 0.
        BehindOrgan z = church("p0 9 0 0;");
        z.ahead(20);
        due("playAhead(30, 0)", z.playAhead(30, 0), 0);
        due("playAhead(30, 1)", z.playAhead(30, 1), 0);
        due("playAhead(0, 0)", x.playAhead(0, 0), BAD);
        due("playAhead(31, 0)", x.playAhead(31, 0), BAD);
        due("playAhead(1, 2)", x.playAhead(1, 2), BAD);
        due("playAhead(1, -1)", x.playAhead(1, -1), BAD);
    }

    private static void seat() {
        promise = "18 seat";
        // 0, 2, 5: without the last one 2, else 5.
        BehindOrgan x = church(DEAF);
        due("seat(1, 0)", x.seat(1, 0), 2);
        due("seat(1, 1)", x.seat(1, 1), 2);
        due("seat(2, 1)", x.seat(2, 1), 4);
        due("now(3)", x.now(3), NONE);
        // All alike: a choir anywhere is worse.
        BehindOrgan y = church("p0 0 0 2;p0 0 0 2;");
        due("seat(1, 0)", y.seat(1, 0), NONE);
        due("seat(1, 1)", y.seat(1, 1), 0);
        y.choir(1);
        due("seat(1, 0) with a choir", y.seat(1, 0), NONE);
        // It is the same everywhere: the first pew, none is the last of all.
        BehindOrgan z = church("p0 0 0 0;p0 0 0 0;");
        due("seat(30, 0)", z.seat(30, 0), 0);
        due("seat(0, 0)", x.seat(0, 0), BAD);
        due("seat(31, 0)", x.seat(31, 0), BAD);
        due("seat(1, 2)", x.seat(1, 2), BAD);
        due("seat(1, -1)", x.seat(1, -1), BAD);
    }

    private static void knowers() {
        promise = "19 knowers";
        BehindOrgan x = church(DEAF);
        due("knowers(1, 5)", x.knowers(1, 5), 0);
        due("knowers(1, 4)", x.knowers(1, 4), 4);
        due("knowers(1, 1)", x.knowers(1, 1), 6);
        due("knowers(2, 4)", x.knowers(2, 4), 4);
        due("knowers(30, 0)", x.knowers(30, 0), 6);
        x.knows(2, 1);
        due("knowers(1, 1) besides", x.knowers(1, 1), 2);
        due("knowers(1, 2) besides", x.knowers(1, 2), 0);
        due("pew(1, 6)", x.pew(1, 6), 0);
        lines(x, 1);
        due("knowers(1, 0)", x.knowers(1, 0), NONE);
        // The second comes to rest 1 below the mean of (7 + 7 + 20) / 2 beside it; the last is at 0.
        // Of those beside it either (13 less 1) or both (10 less 1) may know it.
        BehindOrgan y = church("p0 9 0 5;p60 0 9 0;p0 9 0 5;p0 9 0 0;");
        int[] most = {16, 15, 12, 11, 9, 8};
        int[] bits = {0, 1, 1, 5, 5, NONE};
        for (int i = 0; i < most.length; i++) {
            due("knowers(30, " + most[i] + ")", y.knowers(30, most[i]), bits[i]);
        }
        // All 9, 13, 17; without habit of 0 and 1: 0, 0, 7; of 2: 9, 13, 9; of 0 or of 1: 17, 9 apart.
        // One of a high bit goes ahead of two of low ones.
        BehindOrgan z = church("p60 0 0 3;p0 9 0 9;p0 0 9 5;");
        due("knowers(3, 7)", z.knowers(3, 7), 4);
        due("knowers(1, 0) are all", church("p0 0 0 3;p0 0 0 9;").knowers(1, 0), 3);
        due("knowers(0, 0)", x.knowers(0, 0), BAD);
        due("knowers(31, 0)", x.knowers(31, 0), BAD);
        due("knowers(1, 100)", x.knowers(1, 100), BAD);
        due("knowers(1, -1)", x.knowers(1, -1), BAD);
    }

    private static void pulls() {
        promise = "20 pulls";
        // Means of 0, 2, 5 by w10: 2; without the last 1, without the second 2, without the first 3.
        BehindOrgan x = church(DEAF + "w10;");
        due("pulls(1)", x.pulls(1), 2);
        due("now(1)", x.now(1), 0);
        due("count(0)", x.count(0), 3);
        // The first one alone would have no neighbours: he would wait for nobody.
        BehindOrgan y = church(TWO + "w10;");
        due("pulls(1)", y.pulls(1), 1);
        // 2 by 4 is 0: he need not wait for them, and less than that can't be.
        BehindOrgan z = church("p0 0 0 0;p0 0 0 1;p0 0 0 1;p0 0 0 0;w10;");
        due("pulls(1) when he need not wait", z.pulls(1), NONE);
        // 6 by 3 is 2, 3 by 2 is 1 whether the first or the second goes: the least.
        BehindOrgan s = church("p0 0 0 3;p0 0 0 3;p0 0 0 0;w10;");
        due("pulls(1)", s.pulls(1), 0);
        // Without the middle one the outer are neighbours, 10 between them: 9 times 10 by 14 is 6 each.
        BehindOrgan m = church("p0 0 9 0;p30 0 9 9;p60 0 9 0;w10;");
        // All: 3, 12, 3: 6. Without the first: 12, 3: 7. Without the middle: 6, 6: 6, not less.
        due("pulls(1)", m.pulls(1), NONE);
        // A choir goes with its pew, and the others keep theirs: 0, 8, 0 is 2; 8, 0 is 4; 0, 0 is 0.
        BehindOrgan c = church("p0 0 0 0;p0 0 0 8;p0 0 0 8;w10;");
        c.choir(2);
        due("pulls(1) by a choir", c.pulls(1), 1);
        // Who knows it keeps knowing it when those ahead go: 4, 2, 0 is 2; 2, 0 is 1; 4, 0 is 2; 4, 2 is 3.
        BehindOrgan k = church("p0 0 0 4;p0 0 0 2;p0 0 0 9;w10;");
        k.knows(2, 1);
        due("pulls(1) by knowing", k.pulls(1), 0);
        // From NOW on: 10, 4, 0 late. All: 15, 6, 0 is 7; without the first: 6, 0 is 3.
        BehindOrgan l = church("p60 0 0 5;p30 0 0 2;p0 0 0 0;");
        lines(l, 2);
        l.waits(10);
        due("pulls(1) behind two lines", l.pulls(1), 0);
        // With the first goes its choir, or its knowing: 0, 4, 3 is 2; 4, 3 is 3; 0, 3 is 1; 0, 4 is 2.
        BehindOrgan g = church("p0 0 0 9;p0 0 0 4;p0 0 0 3;w10;");
        g.choir(0);
        due("pulls(1) by a choir in the first", g.pulls(1), 1);
        g.choir(NONE);
        g.knows(0, 1);
        due("pulls(1) by a first that knows it", g.pulls(1), 1);
        due("pulls(1) of nobody", new BehindOrgan().pulls(1), NONE);
        due("pulls(0)", x.pulls(0), BAD);
        due("pulls(31)", x.pulls(31), BAD);
    }

    private static void change() {
        promise = "21 change";
        // By yards 60 and 0: 9 times 10 by 14 is 6, and the habit of 5 is at the other one.
        BehindOrgan x = church("p0 9 0 0;p60 9 0 5;");
        due("behind(1, -2)", x.behind(1, -2), 11);
        due("change(1)", x.change(1), 1);
        due("pew(0, 0)", x.pew(0, 0), 0);
        // It is as good as it can be.
        BehindOrgan y = church("p60 9 0 0;p0 9 0 5;");
        due("change(1)", y.change(1), NONE);
        // The third of them is far, and the second has the habit: 0, 5, 6; 6, 5, 0; 0, 11, 0.
        BehindOrgan z = church("p0 9 0 0;p0 9 0 5;p60 9 0 0;");
        due("change(1) that is no better", z.change(1), NONE);
        // 6, 6, 12, 0; but 6, 6, 6, 6 by the last two.
        BehindOrgan t = church("p0 9 0 6;p0 9 0 6;p60 9 0 6;p0 9 0 0;");
        due("change(1)", t.change(1), 23);
        // 12, 0, 0, 6 is 12; with 0 and 1: 6, 6, 0, 6 is 6; so with 0 and 2: the first.
        BehindOrgan f = church("p60 9 0 6;p0 9 0 0;p0 9 0 0;p60 9 0 0;");
        due("change(1)", f.change(1), 1);
        due("change(1) of one", church(ALONE).change(1), NONE);
        due("change(0)", x.change(0), BAD);
        due("change(31)", x.change(31), BAD);
    }

    private static void gaps() {
        promise = "22 gaps";
        // 15 behind four lines.
        BehindOrgan x = church(ALONE);
        due("gaps(15)", x.gaps(15), 0);
        due("gaps(14)", x.gaps(14), 1);
        due("gaps(7)", x.gaps(7), 1);
        due("gaps(5)", x.gaps(5), 2);
        due("gaps(1)", x.gaps(1), 7);
        due("gaps(0)", x.gaps(0), NONE);
        due("count(2)", x.count(2), 2);
        // Without sign: -3 behind four lines.
        x.ahead(20);
        due("gaps(2)", x.gaps(2), 1);
        due("gaps(0)", x.gaps(0), 3);
        due("gaps(0), 9 late", church("p0 0 0 9;l1;").gaps(0), 9);
        due("gaps(99)", x.gaps(99), 0);
        due("gaps(100)", x.gaps(100), BAD);
        due("gaps(-1)", x.gaps(-1), BAD);
    }

    private static void hearAndWaited() {
        promise = "23 hear, 24 forget, 25 waited";
        // 8 late less the wait of w times 8 by 10: 8 8 7 6 5 4 4 3 2 1 0.
        BehindOrgan x = church(ALONE + "w3;");
        due("hear(1, 0, 8)", x.hear(1, 0, 8), 1);
        due("waited()", x.waited(), 3);
        due("hear(2, 0, 12)", x.hear(2, 0, 12), 2);
        due("waited()", x.waited(), 1);
        due("forget()", x.forget(), 2);
        due("forget()", x.forget(), 0);
        due("waited()", x.waited(), 2047);
        x.ahead(9);
        x.choir(0);
        x.knows(0, 1);
        lines(x, 3);
        x.hear(1, 0, 4);
        due("waited() from the beginning", x.waited(), 96);
        due("hear(1, 0, 3)", x.hear(1, 0, 3), 2);
        due("waited() of what can't be", x.waited(), 0);
        due("now(4)", x.now(4), 3);
        x.forget();
        due("hear(20, 0, -99)", x.hear(20, 0, -99), 1);
        due("hear(1, 0, 999)", x.hear(1, 0, 999), 2);
        due("hear(0, 0, 0)", x.hear(0, 0, 0), BAD);
        due("hear(21, 0, 0)", x.hear(21, 0, 0), BAD);
        due("hear(1, 1, 0)", x.hear(1, 1, 0), BAD);
        due("hear(1, -1, 0)", x.hear(1, -1, 0), BAD);
        due("hear(1, 0, -100)", x.hear(1, 0, -100), BAD);
        due("hear(1, 0, 1000)", x.hear(1, 0, 1000), BAD);
        for (int i = 3; i <= 6; i++) {
            due("hear(1, 0, 999)", x.hear(1, 0, 999), i);
        }
        due("hear(1, 0, 999) when full", x.hear(1, 0, 999), FULL);
        due("hear(1, 1, 0) when full", x.hear(1, 1, 0), BAD);
        due("forget()", x.forget(), 6);
        BehindOrgan d = church(DEAF);
        d.hear(20, 2, 100);
        d.hear(20, 1, 40);
        due("waited() by line 20", d.waited(), 1);
    }

    private static void odds() {
        promise = "26 odds";
        // Behind a line: 5 times (10 less a) by 10 and 3, to the other one's 0: 8, or 3 by a = 10.
        BehindOrgan x = church("p0 0 0 0;p60 5 0 3;");
        due("odds(10, 3, 1, 3, 0)", x.odds(10, 3, 1, 3, 0), 3);
        due("odds(10, 3, 1, 3, 1)", x.odds(10, 3, 1, 3, 1), 10);
        due("odds(10, 4, 1, 7, 0)", x.odds(10, 4, 1, 7, 0), 2);
        due("odds(10, 4, 1, 7, 1)", x.odds(10, 4, 1, 7, 1), 5);
        due("odds(10, 4, 1, 8, 0)", x.odds(10, 4, 1, 8, 0), 1);
        due("odds(10, 4, 1, 8, 1)", x.odds(10, 4, 1, 8, 1), 1);
        due("odds(10, 4, 1, 2, 0)", x.odds(10, 4, 1, 2, 0), 0);
        due("odds(10, 4, 1, 2, 1)", x.odds(10, 4, 1, 2, 1), 1);
        // Two lines: neither 12, the first 9, the second 7, both 4.
        due("odds(10, 2, 2, 7, 0)", x.odds(10, 2, 2, 7, 0), 1);
        due("odds(10, 2, 2, 7, 1)", x.odds(10, 2, 2, 7, 1), 5);
        due("odds(10, 2, 2, 9, 0)", x.odds(10, 2, 2, 9, 0), 9);
        due("odds(10, 2, 2, 9, 1)", x.odds(10, 2, 2, 9, 1), 25);
        due("odds(10, 0, 1, 7, 0)", x.odds(10, 0, 1, 7, 0), 0);
        due("odds(10, 10, 1, 7, 0)", x.odds(10, 10, 1, 7, 0), 1);
        due("odds(0, 0, 0, 0, 0)", x.odds(0, 0, 0, 0, 0), 1);
        // Else 0, whatever he plays now.
        x.ahead(10);
        due("odds(10, 0, 1, 7, 0) by AHEAD 10", x.odds(10, 0, 1, 7, 0), 0);
        due("now(2)", x.now(2), 10);
        x.line();
        due("odds(0, 0, 0, 2, 0)", x.odds(0, 0, 0, 2, 0), 0);
        due("odds(0, 0, 0, 3, 1)", x.odds(0, 0, 0, 3, 1), 1);
        int[][] bad = {{21, 0, 0, 0, 0}, {-1, 0, 0, 0, 0}, {0, 11, 0, 0, 0}, {0, -1, 0, 0, 0}, {0, 0, 7, 0, 0},
            {0, 0, -1, 0, 0}, {0, 0, 0, 100, 0}, {0, 0, 0, -1, 0}, {0, 0, 0, 0, 2}, {0, 0, 0, 0, -1}};
        for (int i = 0; i < bad.length; i++) {
            int[] b = bad[i];
            due("wrong odds " + i, x.odds(b[0], b[1], b[2], b[3], b[4]), BAD);
        }
    }

    private static void rate() {
        promise = "27 rate, 31 trace";
        // 1, 9 and 4 late, less half of the mean of 14 / 3.
        BehindOrgan x = church("p6 0 0 1;p60 0 0 9;p30 0 0 4;w5;");
        x.line();
        lates("rate", x, -1, 7, 2);
        int[] want = {2, 7, -2, 14, 0, 4};
        long[] traces = {1, 11, 101, 1011, 10101, 100001};
        long trace = 0;
        for (int kind = 0; kind < 6; kind++) {
            due("rate(" + kind + ", 2)", x.rate(kind, 2), want[kind]);
            trace += traces[kind];
            due("trace()", x.trace(), trace);
        }
        due("rate(6, 0)", x.rate(6, 0), BAD);
        due("rate(-1, 0)", x.rate(-1, 0), BAD);
        due("rate(0, 3)", x.rate(0, 3), BAD);
        due("rate(0, -1)", x.rate(0, -1), BAD);
        due("trace()", x.trace(), trace);
        x.knows(2, 1);
        due("rate(2, 2) of one that knows it", x.rate(2, 2), -2);
        x.keep(0);
        x.rate(5, 1);
        x.back(0);
        due("trace() behind back()", x.trace(), trace + 101 + 100001);
    }

    private static void images() {
        promise = "28 keep, 29 back";
        BehindOrgan x = church(ALONE + "w5;");
        due("back(0)", x.back(0), STATE);
        due("back(2)", x.back(2), BAD);
        due("back(-1)", x.back(-1), BAD);
        due("keep(2)", x.keep(2), BAD);
        due("keep(-1)", x.keep(-1), BAD);
        x.line();
        x.ahead(3);
        due("keep(1)", x.keep(1), 1);
        due("back(0)", x.back(0), STATE);
        due("now(6)", x.now(6), 2);
        x.knows(0, 1);
        x.choir(0);
        x.waits(9);
        x.ahead(4);
        x.verse();
        due("keep(0)", x.keep(0), 5);
        x.hear(1, 0, 0);
        due("back(1)", x.back(1), 1);
        int[] nows = {1, 4, 3, NONE, 5, 0, 0};
        for (int i = 0; i < nows.length; i++) {
            due("now(" + i + ")", x.now(i), nows[i]);
        }
        lates("the image", x, 4);
        due("pew(0, 6)", x.pew(0, 6), 0);
        due("HEARD stays", x.count(3), 1);
        due("undo()", x.undo(), STATE);
        x.line();
        due("undo()", x.undo(), 0);
        due("back(0)", x.back(0), 5);
        due("now(3)", x.now(3), 0);
        due("now(4)", x.now(4), 9);
        due("pew(0, 6)", x.pew(0, 6), 1);
        due("back(1) again", x.back(1), 1);
    }
}
