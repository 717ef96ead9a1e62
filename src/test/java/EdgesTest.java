/**
 * The bounds that the document names, sentence by sentence: on the bound and one beyond it, with
 * answers counted by hand. (RefusedTest says that what is refused changes nothing.)
 */
public final class EdgesTest {
    private static final int BAD = -1000001, STATE = -1000002, FULL = -1000003, NONE = -1000009;

    private static int wrong = 0;
    private static String sentence = "";

    private static void due(String call, long got, long want) {
        if (got != want) {
            wrong++;
            System.out.println("\"" + sentence + "\": " + call + " answered " + got + ", due is " + want);
        }
    }

    private static void type(BehindOrgan x, String text) {
        for (int i = 0; i < text.length(); i++) {
            x.type(text.charAt(i));
        }
    }

    private static int reading(String text) {
        BehindOrgan x = new BehindOrgan();
        type(x, text);
        return x.church();
    }

    private static BehindOrgan church(String text) {
        BehindOrgan x = new BehindOrgan();
        type(x, text);
        if (x.church() < 0) {
            due("church of " + text, -1, 0);
        }
        return x;
    }

    private static void lines(BehindOrgan x, int n) {
        for (int i = 0; i < n; i++) {
            x.line();
        }
    }

    private static void verses(BehindOrgan x, int n) {
        for (int i = 0; i < n; i++) {
            x.verse();
        }
    }

    private static void lates(String where, BehindOrgan x, int... want) {
        for (int k = 0; k < want.length; k++) {
            due(where + ", pew(" + k + ", 4)", x.pew(k, 4), want[k]);
        }
    }

    public static void main(String[] args) {
        theText();
        theNumbers();
        theChurchIsSung();
        whatIsDone();
        whatComes();
        whatIsBest();
        whatWasHeard();
        kindsAndImages();
        System.out.println(wrong == 0 ? "all bounds are as due" : wrong + " answers are not as due");
        if (wrong != 0) {
            System.exit(1);
        }
    }

    // ---- the text

    private static void theText() {
        mostPews();
        mostLetters();
        whichLetters();
        blanks();
        firstLetter();
        itemsEnd();
        behindAnItem();
        onceEach();
        howManyNumbers();
        wrongNumbers();
        endsTooEarly();
        firstFault();
        farthestFaults();
        anew();
    }

    private static void mostPews() {
        sentence = "(6 at most), one behind another";
        for (int pews = 0; pews <= 6; pews++) {
            BehindOrgan x = new BehindOrgan();
            type(x, "p1 2 3 4;".repeat(pews));
            due("church() of " + pews, x.church(), pews);
            due("count(0)", x.count(0), pews);
            due("pew(" + pews + ", 0)", x.pew(pews, 0), BAD);
            due("pew(" + (pews - 1) + ", 0)", x.pew(pews - 1, 0), pews == 0 ? BAD : 1);
        }
        due("a seventh", reading("p1 2 3 4;".repeat(7)), -10 - 54);
        due("a seventh behind other items", reading("p1 2 3 4;".repeat(6) + "w1;l1;g1; p"), -10 - 64);
        BehindOrgan last = church("p1 2 3 0;".repeat(5) + "p60 9 8 7;");
        int[] told = {60, 9, 8, 7, 0, 10, 0};
        for (int i = 0; i < told.length; i++) {
            due("pew(5, " + i + ")", last.pew(5, i), told[i]);
        }
    }

    private static void mostLetters() {
        sentence = "a text (200 letters at most)";
        BehindOrgan x = new BehindOrgan();
        type(x, " ".repeat(195));
        type(x, "w10");
        due("the letter 199", x.type(' '), 199);
        due("the letter 200", x.type(';'), 200);
        due("the letter 201", x.type(';'), FULL);
        due("the letter 202", x.type(' '), FULL);
        due("count(4)", x.count(4), 200);
        due("church()", x.church(), 1);
        due("now(4)", x.now(4), 10);
        due("the text is empty then", x.count(4), 0);
        due("the letter 1", x.type('g'), 1);
        sentence = "THE TEXT is empty: how many letters it had.";
        due("clear()", x.clear(), 1);
        due("clear()", x.clear(), 0);
        BehindOrgan full = new BehindOrgan();
        type(full, "w".repeat(200));
        due("clear()", full.clear(), 200);
        due("count(4)", full.count(4), 0);
        type(full, "g1;");
        due("church()", full.church(), 1);
        sentence = "the text's length, if it ends too early";
        BehindOrgan early = new BehindOrgan();
        type(early, " ".repeat(197) + "w10;");
        due("church() of 200 letters, the ; was refused", early.church(), -10 - 200);
    }

    private static void whichLetters() {
        sentence = "A letter (0 .. 255) comes to THE TEXT: how many it has. BAD; FULL.";
        BehindOrgan x = new BehindOrgan();
        for (int letter = -3; letter <= 258; letter++) {
            boolean isLetter = letter >= 0 && letter <= 255;
            x.clear();
            due("type(" + letter + ")", x.type(letter), isLetter ? 1 : BAD);
            due("count(4)", x.count(4), isLetter ? 1 : 0);
            x = letter % 100 == 0 ? new BehindOrgan() : x;
        }
        due("type(256 and w)", new BehindOrgan().type(256 + 'w'), BAD);
        due("type(w less 256)", new BehindOrgan().type('w' - 256), BAD);
    }

    private static void blanks() {
        sentence = "blanks (32) between TOKENS";
        for (char c = 0; c < 256; c++) {
            due("w" + (int) c + " 5;", reading("w" + c + "5;"), c == ' ' ? 1 : -10 - 1);
        }
        due("none", reading("p1 2 3 4;w5;l6;g7;"), 4);
        due("many", reading("   p  1   2    3  4   ;  w   5  ;   l 6  ;  g   7 ;   "), 4);
        due("nothing", reading(""), 0);
        due("a blank", reading(" "), 0);
        due("200 blanks", reading(" ".repeat(200)), 0);
        due("a blank parts a number", reading("w1 0;"), -10 - 3);
    }

    private static void firstLetter() {
        sentence = "TOKENS are the letters p, w, l, g, NUMBERS and ; .";
        for (char c = 0; c < 256; c++) {
            int want = "pwlg".indexOf(c) >= 0 ? -10 - 1 : c == ' ' ? 0 : -10;
            due("a text of " + (int) c + " alone", reading("" + c), want);
        }
    }

    private static void itemsEnd() {
        sentence = "ITEMS, each ended by ;";
        for (char c = 0; c < 256; c++) {
            boolean isDigit = c >= '0' && c <= '9';
            int want = c == ';' ? 1 : c == ' ' ? -10 - 3 : isDigit ? -10 - 1 : -10 - 2;
            due("w5 ended by " + (int) c, reading("w5" + c), want);
        }
        due(";", reading(";"), -10);
        due("w5;;", reading("w5;;"), -10 - 3);
        due("w5 l5;", reading("w5 l5;"), -10 - 3);
    }

    private static void behindAnItem() {
        sentence = "TOKEN that can't stand there";
        for (char c = 0; c < 256; c++) {
            int want = c == ' ' ? 1 : "plg".indexOf(c) >= 0 ? -10 - 4 : -10 - 3;
            due("w5; and " + (int) c, reading("w5;" + c), want);
        }
        String[] texts = {"pw", "p;", "p1p", "p1;", "p1 2w", "p1 2;", "p1 2 3g", "p1 2 3;", "p1 2 3 4l", "ww", "w;", "lg", "l;",
            "gp", "g;", "5", "w5p", "w5 5"};
        int[] places = {1, 1, 2, 2, 4, 4, 6, 6, 8, 1, 1, 1, 1, 1, 1, 0, 2, 3};
        for (int i = 0; i < texts.length; i++) {
            due(texts[i], reading(texts[i]), -10 - places[i]);
        }
    }

    private static void onceEach() {
        sentence = "w N (WAIT), l N (LINES), g N (GAP; once each at most)";
        for (String letter : new String[] {"w", "l", "g"}) {
            due(letter + " once", reading(letter + "1;"), 1);
            due(letter + " again", reading(letter + "1;" + letter + "1;"), -10 - 3);
            due(letter + " again, later", reading(letter + "1;p1 2 3 4; " + letter + "2;"), -10 - 13);
        }
        due("each once", reading("g1;w1;l1;"), 3);
    }

    private static void howManyNumbers() {
        sentence = "p Y O N H (a PEW)";
        due("four", reading("p1 2 3 4;"), 1);
        due("three", reading("p1 2 3;"), -10 - 6);
        due("five", reading("p1 2 3 4 5;"), -10 - 9);
        due("none", reading("p;"), -10 - 1);
        sentence = "w N (WAIT), l N (LINES), g N (GAP";
        for (String letter : new String[] {"w", "l", "g"}) {
            due(letter + ", none", reading(letter + ";"), -10 - 1);
            due(letter + ", two", reading(letter + "1 1;"), -10 - 3);
        }
    }

    private static void wrongNumbers() {
        sentence = "a NUMBER above 99 or with a 0 ahead of others, that TOKEN's";
        String[] numbers = {"99", "100", "101", "999", "1000", "256", "65536", "2147483648", "4294967296", "4294967297",
            "18446744073709551616", "18446744073709551617", "00", "01", "09", "000", "001", "010", "0000000001"};
        for (String number : numbers) {
            due("p" + number, reading("p" + number + " 0 0 0;"), -10 - 1);
            due("p ORGAN " + number, reading("p0 " + number + " 0 0;"), -10 - 3);
            due("w" + number, reading("w " + number + ";"), -10 - 2);
            due("l" + number, reading("l" + number + ";"), -10 - 1);
            due("g" + number, reading("g1;" + number + ";"), -10 - 3);
        }
        due("a 0 by itself", reading("p0 0 0 0;w0;g0;"), 3);
        due("a number of 195 digits", reading("w" + "1".repeat(195) + ";"), -10 - 1);
        due("one up to the end", reading("w" + "1".repeat(199)), -10 - 1);
    }

    private static void endsTooEarly() {
        sentence = "the text's length, if it ends too early";
        String text = " p60 9 8 7 ;w10;  l 9; g9;p1 2 3 4;";
        int items = 0;
        boolean isOpen = false;
        for (int n = 0; n <= text.length(); n++) {
            if (n > 0) {
                char c = text.charAt(n - 1);
                items += c == ';' ? 1 : 0;
                isOpen = isOpen && c != ';' || "pwlg".indexOf(c) >= 0;
            }
            due("the first " + n + " letters", reading(text.substring(0, n)), isOpen ? -10 - n : items);
        }
        due("with blanks behind it", reading("w5   "), -10 - 5);
    }

    private static void firstFault() {
        sentence = "FAULT: the place of the first letter of the first TOKEN";
        due("two numbers", reading("w11;l10;"), -10 - 1);
        due("the second", reading("w10;l10;g10;"), -10 - 5);
        due("a letter behind it", reading("w99;x"), -10 - 1);
        due("a letter ahead of it", reading("xw99;"), -10);
        due("the first digit of it", reading("p60 9  10 9;"), -10 - 7);
    }

    private static void farthestFaults() {
        sentence = "-10 less FAULT: nothing changes.";
        due("FAULT 0", reading("x"), -10);
        due("FAULT 1", reading(" x"), -11);
        due("FAULT 199", reading(" ".repeat(199) + "x"), -209);
        due("FAULT 200", reading(" ".repeat(199) + "w"), -210);
        BehindOrgan x = church("p1 2 3 4;w5;");
        type(x, "w6;w");
        due("church()", x.church(), -13);
        due("now(4)", x.now(4), 5);
        due("count(0)", x.count(0), 1);
        due("count(4)", x.count(4), 4);
        due("the same text again", x.church(), -13);
    }

    private static void anew() {
        sentence = "THE TEXT tells all anew, and is empty then: how many ITEMS.";
        BehindOrgan x = church("p60 9 9 9;".repeat(6) + "w10;l9;g9;");
        type(x, "p1 2 3 4;");
        due("church()", x.church(), 1);
        due("pews", x.count(0), 1);
        due("pew(1, 0)", x.pew(1, 0), BAD);
        due("WAIT", x.now(4), 0);
        due("LINES", x.count(1), 4);
        due("GAP", x.count(2), 2);
        due("letters", x.count(4), 0);
        due("church() of no text", x.church(), 0);
        due("pews", x.count(0), 0);
        due("a new object reads no text", new BehindOrgan().church(), 0);
        // 6 late of its own; nothing is left of six pews behind a smaller church and six again.
        BehindOrgan y = church("p0 0 0 6;".repeat(6));
        y.line();
        type(y, "p0 0 0 1;");
        y.church();
        y.line();
        lates("one pew", y, 1);
        type(y, "p0 0 0 0;".repeat(6));
        y.church();
        lates("six pews anew", y, 0, 0, 0, 0, 0, 0);
    }

    // ---- numbers as told

    private static void theNumbers() {
        String[] told = {"YARDS from the organ (0 .. 60)", "ORGAN (0 .. 9)", "NEIGHBOURS (0 .. 9)", "HABIT (0 .. 9)",
            "WAIT (0 .. 10; 0 at first)", "LINES of a verse (1 .. 9; 4 at first)", "GAP (0 .. 9; 2 at first)"};
        String[] ahead = {"p", "p7 ", "p7 7 ", "p7 7 7 ", "w", "l", "g"};
        String[] behind = {" 7 7 7;", " 7 7;", " 7;", ";", ";", ";", ";"};
        int[] least = {0, 0, 0, 0, 0, 1, 0};
        int[] most = {60, 9, 9, 9, 10, 9, 9};
        int[] untold = {BAD, BAD, BAD, BAD, 0, 4, 2};
        for (int i = 0; i < told.length; i++) {
            sentence = told[i];
            for (int v = 0; v <= 130; v++) {
                BehindOrgan x = new BehindOrgan();
                type(x, ahead[i] + v + behind[i]);
                boolean isTold = v >= least[i] && v <= most[i];
                due("church() by " + v, x.church(), isTold ? 1 : -10 - ahead[i].length());
                due("number " + v, numberAt(x, i), isTold ? v : untold[i]);
            }
            due("below 0", reading(ahead[i] + "-1" + behind[i]), -10 - ahead[i].length());
        }
        BehindOrgan x = church("p0 0 0 0;");
        due("WAIT at first", x.now(4), 0);
        due("LINES at first", x.count(1), 4);
        due("GAP at first", x.count(2), 2);
        lag();
    }

    private static int numberAt(BehindOrgan x, int i) {
        return i < 4 ? x.pew(0, i) : i == 4 ? x.now(4) : x.count(i - 4);
    }

    private static void lag() {
        sentence = "LAG of a PEW: its YARDS by 6.";
        int[] yards = {0, 1, 5, 6, 7, 11, 12, 53, 54, 59, 60};
        int[] lags = {0, 0, 0, 1, 1, 1, 2, 8, 9, 9, 10};
        for (int i = 0; i < yards.length; i++) {
            due(yards[i] + " yards", church("p" + yards[i] + " 0 0 0;").pew(0, 5), lags[i]);
        }
    }

    // ---- a line

    private static void theChurchIsSung() {
        between();
        cutLine();
        cutMean();
        neighbours();
        choir();
        knowing();
        leastLate();
        mostLate();
        waiting();
        mostPace();
        mostLines();
    }

    /** The other one is 1 late and stays so: 9 times (1 and BETWEEN) by 14 is 1 from 1 on, 2 from 3 on. */
    private static void between() {
        sentence = "BETWEEN two: how much their YARDS differ, by 6.";
        int[][] yards = {{0, 0}, {0, 5}, {5, 0}, {5, 6}, {0, 6}, {6, 0}, {1, 12}, {60, 54}, {54, 60}, {0, 18}, {17, 0}, {60, 42}};
        int[] late = {0, 0, 0, 0, 1, 1, 1, 1, 1, 2, 1, 2};
        for (int i = 0; i < yards.length; i++) {
            BehindOrgan x = church("p" + yards[i][0] + " 0 9 0;p" + yards[i][1] + " 0 0 1;");
            x.waits(0);
            x.knows(0, 1);
            // What the first is behind this line is taken away by the choir.
            x.choir(0);
            x.line();
            x.choir(NONE);
            x.knows(1, 1);
            x.line();
            lates(yards[i][0] + " and " + yards[i][1], x, late[i], 1);
        }
    }

    private static void cutLine() {
        sentence = "(All that is divided is cut towards 0.)";
        // 5 times (LAG less AHEAD) by 10.
        int[] ahead = {0, 1, 2, 3, 4, 5, 6, 19, 20};
        int[] late = {1, 1, 0, 0, 0, -1, -1, -8, -8};
        for (int i = 0; i < ahead.length; i++) {
            BehindOrgan x = church("p18 5 0 0;");
            x.ahead(ahead[i]);
            x.line();
            lates("AHEAD " + ahead[i], x, late[i]);
        }
        // HABIT is not divided: -5 / 10 and 3.
        BehindOrgan h = church("p0 5 0 3;");
        h.ahead(1);
        h.line();
        lates("by HABIT", h, 3);
        sentence = "A VERSE: so many LINES as told; then each LATE is what is left, divided by GAP and 1.";
        // Behind a line -8 by AHEAD 16, 9 by HABIT.
        int[] early = {-8, -4, -2, -2, -1, -1, -1, -1, 0, 0};
        int[] slow = {9, 4, 3, 2, 1, 1, 1, 1, 1, 0};
        for (int gap = 0; gap <= 9; gap++) {
            BehindOrgan x = church("p0 5 0 0;p0 0 0 9;l1;g" + gap + ";");
            x.ahead(16);
            x.verse();
            lates("GAP " + gap, x, early[gap], slow[gap]);
        }
        for (int n = 1; n <= 9; n++) {
            BehindOrgan x = church("p0 0 0 9;g0;l" + n + ";");
            x.verse();
            lates("LINES " + n, x, 9 * n);
            due("now(0)", x.now(0), n);
        }
    }

    private static void cutMean() {
        sentence = "MEAN is that of LATE (as it was) and BETWEEN of the PEWS next to it (one or two";
        // -1 and -2 beside the middle one: -1, 9 times that by 14 is 0 (by -2 it would be -1).
        BehindOrgan e = church("p0 2 0 0;p0 0 9 0;p0 5 0 0;");
        e.ahead(4);
        e.line();
        lates("a line", e, -1, 0, -2);
        e.line();
        due("behind -1 and -2", e.pew(1, 4), 0);
        // 1 and 2: 1; 9 by 14 is 0 (by 2 it would be 1).
        BehindOrgan s = church("p0 0 0 1;p0 0 9 0;p0 0 0 2;");
        s.line();
        s.line();
        due("behind 1 and 2", s.pew(1, 4), 0);
        // 2 and 4: 3; 27 by 14 is 1.
        s.line();
        due("behind 2 and 4", s.pew(1, 4), 1);
        // BETWEEN 1 and 2 of those beside it, 3 by 2 is 1: 9 by 14.
        BehindOrgan b = church("p0 0 0 0;p6 0 9 0;p18 0 0 0;");
        b.line();
        due("BETWEEN 1 and 2", b.pew(1, 4), 0);
        // BETWEEN 1 and 3: 2, 18 by 14.
        BehindOrgan c = church("p0 0 0 0;p6 0 9 0;p24 0 0 0;");
        c.line();
        due("BETWEEN 1 and 3", c.pew(1, 4), 1);
    }

    private static void neighbours() {
        sentence = "of a PEW alone: 0, and NEIGHBOURS count as 0";
        // 5 times 10 by 10, not by 19.
        for (int n = 0; n <= 9; n++) {
            BehindOrgan x = church("p60 5 " + n + " 0;");
            x.line();
            lates("NEIGHBOURS " + n, x, 5);
        }
        // With another one they count: 50 by 19 of the first, 2.
        BehindOrgan two = church("p60 5 9 0;p60 0 0 0;");
        two.line();
        lates("two", two, 2, 0);
        sentence = "the PEWS next to it (one or two";
        // The first and the last are next to one each, not to each other: 9, or 9 times 9 by 14.
        BehindOrgan first = church("p0 0 0 9;p0 0 0 0;p0 0 9 0;");
        lines(first, 2);
        lates("by the first", first, 18, 0, 0);
        BehindOrgan last = church("p0 0 9 0;p0 0 0 0;p0 0 0 9;");
        lines(last, 2);
        lates("by the last", last, 0, 0, 18);
        BehindOrgan beside = church("p0 0 9 0;p0 0 0 9;p0 0 9 0;");
        lines(beside, 2);
        lates("by the middle one", beside, 5, 18, 5);
        sentence = "by ORGAN, NEIGHBOURS and 5 together";
        BehindOrgan deaf = church("p60 0 0 0;p0 0 0 0;");
        deaf.line();
        lates("5 alone", deaf, 0, 0);
        // 9 times 10, 9 times 10 by 23: 180 / 23.
        BehindOrgan most = church("p60 9 9 0;p0 0 0 0;");
        most.line();
        lates("9, 9 and 5", most, 7, 0);
    }

    private static void choir() {
        sentence = "Where the CHOIR is, LATE is 0 instead.";
        for (int k = 0; k < 6; k++) {
            BehindOrgan x = church("p0 0 0 9;".repeat(6));
            x.line();
            due("choir(" + k + ")", x.choir(k), NONE);
            due("not until a line is sung", x.pew(k, 4), 9);
            x.line();
            for (int j = 0; j < 6; j++) {
                due("choir(" + k + "), pew(" + j + ", 4)", x.pew(j, 4), j == k ? 0 : 18);
            }
            due("choir(NONE)", x.choir(NONE), k);
            x.line();
            due("no choir there", x.pew(k, 4), 9);
        }
        sentence = "The CHOIR goes to a PEW (NONE: to none): where it was. BAD.";
        BehindOrgan none = new BehindOrgan();
        due("choir(NONE) of no pews", none.choir(NONE), NONE);
        due("choir(0) of no pews", none.choir(0), BAD);
        due("now(6)", none.now(6), 1);
    }

    private static void knowing() {
        sentence = "KNOW: PEWS that know the hymn (none at first): HABIT is 0 to them.";
        BehindOrgan x = church("p0 0 0 9;".repeat(6));
        for (int k = 0; k < 6; k++) {
            due("pew(" + k + ", 6)", x.pew(k, 6), 0);
        }
        for (int k = 0; k < 6; k++) {
            due("knows(" + k + ", 1)", x.knows(k, 1), k + 1);
        }
        due("knows(5, 1) again", x.knows(5, 1), 6);
        x.line();
        lates("all know it", x, 0, 0, 0, 0, 0, 0);
        due("knows(5, 0)", x.knows(5, 0), 5);
        due("knows(5, 0) again", x.knows(5, 0), 5);
        due("knows(0, 0)", x.knows(0, 0), 4);
        x.line();
        lates("four know it", x, 9, 0, 0, 0, 0, 9);
        for (int k = 1; k < 5; k++) {
            due("knows(" + k + ", 0)", x.knows(k, 0), 4 - k);
        }
    }

    /** Behind two lines -9 and 9, behind 22 lines -99 and 99: he waits 4 and 5 in turn. */
    private static BehindOrgan early(int lines) {
        BehindOrgan x = church("p0 0 0 0;p0 0 0 9;w10;");
        lines(x, lines);
        return x;
    }

    private static void leastLate() {
        sentence = "None becomes less than -99 or more than 999 by that (it is these then).";
        BehindOrgan above = early(21);
        lates("21 lines", above, -94, 95);
        above.waits(8);
        above.line();
        above.waits(0);
        lates("one above it", above, -98, 100);
        above.line();
        lates("one above it", above, -98, 109);
        BehindOrgan on = early(22);
        lates("22 lines", on, -99, 99);
        on.waits(0);
        on.line();
        lates("on it", on, -99, 108);
        // 9 by 2, 4 times 3 by 10.
        BehindOrgan below = early(22);
        below.waits(3);
        due("line()", below.line(), 100);
        lates("he has waited below it", below, -100, 107);
        below.waits(0);
        below.line();
        lates("one below it", below, -99, 116);
        // (-99, 108): 4; (-103, 113) is (-99, 113): 7.
        BehindOrgan deep = early(23);
        lates("23 lines", deep, -103, 104);
        due("behind(1, 0)", deep.behind(1, 0), -106);
        due("behind(1, 1)", deep.behind(1, 1), 106);
        deep.line();
        lates("24 lines", deep, -106, 106);
        due("now(5)", deep.now(5), 212);
    }

    private static void mostLate() {
        sentence = "None becomes less than -99 or more than 999 by that (it is these then).";
        BehindOrgan x = church("p0 0 0 2;l9;g0;");
        verses(x, 55);
        lines(x, 4);
        lates("499 lines", x, 998);
        x.knows(0, 1);
        x.line();
        lates("one below it", x, 998);
        x.undo();
        x.undo();
        x.keep(0);
        x.line();
        lates("1000", x, 999);
        x.line();
        lates("1001", x, 999);
        x.knows(0, 1);
        x.line();
        lates("on it", x, 999);
        // It is 999 ahead of the wait.
        x.back(0);
        x.waits(10);
        due("line()", x.line(), 999);
        lates("he waits", x, 0);
        BehindOrgan y = church("p0 0 0 3;l9;g0;");
        verses(y, 36);
        lines(y, 8);
        lates("332 lines", y, 996);
        y.line();
        lates("999", y, 999);
    }

    private static void waiting() {
        sentence = "Then the organist waits: by WAIT times the mean of all LATE by 10, if that is above 0";
        // 9 late: WAIT times 9 by 10.
        int[] pace = {0, 0, 1, 2, 3, 4, 5, 6, 7, 8, 9};
        for (int w = 0; w <= 10; w++) {
            BehindOrgan x = church("p0 0 0 9;w" + w + ";");
            due("line() by WAIT " + w, x.line(), pace[w]);
            lates("WAIT " + w, x, 9 - pace[w]);
        }
        due("9 times 1 by 10", church("p0 0 0 1;w9;").line(), 0);
        due("10 times 1 by 10", church("p0 0 0 1;w10;").line(), 1);
        due("5 times 2 by 10", church("p0 0 0 2;w5;").line(), 1);
        due("4 times 2 by 10", church("p0 0 0 2;w4;").line(), 0);
        due("the mean of 1 and 0", church("p0 0 0 1;p0 0 0 0;w10;").line(), 0);
        due("the mean of 1 and 1", church("p0 0 0 1;p0 0 0 1;w10;").line(), 1);
        due("the mean of 0", church("p0 0 0 0;w10;").line(), 0);
        due("the mean of none", church("w10;").line(), 0);
        // 9 times -2 by 14 is -1.
        BehindOrgan e = church("p0 9 0 0;w10;");
        e.ahead(2);
        due("the mean of -1", e.line(), 0);
        lates("he does not wait", e, -1);
        // 9 times -20 by 14 is -12; 9 and -12: -3 by 2; 9, 9 and -12: 2.
        BehindOrgan m = church("p0 9 0 0;p0 0 0 9;w10;");
        m.ahead(20);
        due("the mean of -12 and 9", m.line(), 0);
        lates("-12 and 9", m, -12, 9);
        BehindOrgan n = church("p0 9 0 0;p0 0 0 9;p0 0 0 9;w10;");
        n.ahead(20);
        due("the mean of -12, 9 and 9", n.line(), 2);
        lates("-12, 9 and 9", n, -14, 7, 7);
    }

    /** 15 a line: 9 times 10 by 14, and 9; he waits for all of it. */
    private static BehindOrgan slow() {
        BehindOrgan x = church("p60 9 9 9;w10;l9;g0;");
        verses(x, 74);
        due("now(1)", x.now(1), 9990);
        return x;
    }

    private static void mostPace() {
        sentence = "so much is PACE more (9999 at most), each LATE less";
        BehindOrgan on = slow();
        on.waits(6);
        due("9990 and 9", on.line(), 9999);
        lates("15 less 9", on, 6);
        due("asleep(9999)", on.asleep(9999), 0);
        // (90 and 30) by 14, and 9: 17, less 10.
        due("9999 and 10", on.line(), 9999);
        lates("17 less 10", on, 7);
        // 15 less 7; (90 and 40) by 14, and 9: 18, less 1.
        BehindOrgan near = slow();
        near.waits(5);
        due("9990 and 7", near.line(), 9997);
        near.waits(1);
        due("9997 and 1", near.line(), 9998);
        lates("18 less 1", near, 17);
        due("asleep(9998)", near.asleep(9998), 0);
        due("asleep(9999)", near.asleep(9999), 1);
        due("behind(60, -1)", near.behind(60, -1), 9999);
        // (90 and 85) by 14, and 9: 21, less 2.
        due("9998 and 2", near.line(), 9999);
        lates("21 less 2", near, 19);
        due("undo()", near.undo(), 9);
        due("now(1)", near.now(1), 9998);
    }

    private static BehindOrgan sung(int n, String text, int versed) {
        BehindOrgan x = church(text);
        verses(x, n / versed);
        lines(x, n % versed);
        due("now(0)", x.now(0), n);
        return x;
    }

    private static void mostLines() {
        sentence = "A LINE: PACE then. STATE: 999 were sung.";
        BehindOrgan x = sung(998, "p0 0 0 1;w0;l9;g0;", 9);
        due("line()", x.line(), 0);
        due("now(0)", x.now(0), 999);
        due("line()", x.line(), STATE);
        lates("999 lines", x, 999);
        due("keep(0)", x.keep(0), 999);
        due("undo()", x.undo(), 9);
        due("now(0)", x.now(0), 998);
        due("line() anew", x.line(), 0);
        due("line()", x.line(), STATE);
        sentence = "A VERSE: PACE then. STATE: it would be more than 999 LINES.";
        for (int n = 2; n <= 9; n++) {
            String text = "l" + n + ";";
            BehindOrgan on = sung(999 - n, text, n);
            due("verse() of " + n + " behind " + (999 - n), on.verse(), 0);
            due("now(0)", on.now(0), 999);
            BehindOrgan beyond = sung(1000 - n, text, n);
            due("verse() of " + n + " behind " + (1000 - n), beyond.verse(), STATE);
            due("now(0)", beyond.now(0), 1000 - n);
            due("line()", beyond.line(), 0);
        }
        sentence = "(From NOW on, LINE behind LINE, no VERSES; nothing is changed.)";
        BehindOrgan w = sung(999, "p0 0 0 9;w10;l9;", 9);
        due("behind(60, -1) behind 999", w.behind(60, -1), 9 * 999 + 540);
        due("asleep by 9 more", w.asleep(9 * 999 + 9), 1);
        due("now(0)", w.now(0), 999);
    }

    // ---- what is done and undone

    private static void whatIsDone() {
        aheads();
        waits();
        undoneAtMost();
        undoneEach();
        undoneAround();
        notUndone();
    }

    private static void aheads() {
        sentence = "AHEAD (0 .. 20; 0 at first)";
        BehindOrgan x = new BehindOrgan();
        due("now(2)", x.now(2), 0);
        int was = 0;
        for (int a = -2; a <= 23; a++) {
            boolean isTold = a >= 0 && a <= 20;
            due("ahead(" + a + ")", x.ahead(a), isTold ? was : BAD);
            was = isTold ? a : was;
            due("now(2)", x.now(2), was);
        }
    }

    private static void waits() {
        sentence = "WAIT becomes w: what it was. BAD.";
        BehindOrgan x = church("w7;");
        int was = 7;
        for (int w = -2; w <= 13; w++) {
            boolean isTold = w >= 0 && w <= 10;
            due("waits(" + w + ")", x.waits(w), isTold ? was : BAD);
            was = isTold ? w : was;
            due("now(4)", x.now(4), was);
        }
    }

    private static void undoneAtMost() {
        sentence = "UNDONE: the latest line(), verse() .. (10 are known, older ones are lost)";
        for (int done = 0; done <= 33; done++) {
            BehindOrgan x = church("p0 0 0 1;");
            for (int i = 1; i <= done; i++) {
                x.line();
                due("now(6) behind " + i, x.now(6), Math.min(10, i));
            }
            int known = Math.min(10, done);
            for (int i = 1; i <= known; i++) {
                due("undo() " + i + " of " + done, x.undo(), known - i);
                due("now(6)", x.now(6), known - i);
                lates("undone " + i + " of " + done, x, done - i);
            }
            due("undo() when none may be, of " + done, x.undo(), STATE);
            lates("undone of " + done, x, done - known);
            due("now(0)", x.now(0), done - known);
        }
    }

    private static void undoneEach() {
        sentence = "UNDONE: the latest line(), verse(), ahead(), choir(), knows(), waits() that was not refused";
        BehindOrgan x = church("p0 0 0 5;p0 0 0 3;w5;");
        x.line();
        lates("a line", x, 3, 1);
        x.verse();
        x.ahead(7);
        x.choir(1);
        x.knows(1, 1);
        x.waits(9);
        due("now(6)", x.now(6), 6);
        // These are refused.
        x.ahead(21);
        x.choir(2);
        x.knows(1, 2);
        x.waits(11);
        due("now(6)", x.now(6), 6);
        due("undo() of waits()", x.undo(), 5);
        due("now(4)", x.now(4), 5);
        due("undo() of knows()", x.undo(), 4);
        due("pew(1, 6)", x.pew(1, 6), 0);
        due("undo() of choir()", x.undo(), 3);
        due("now(3)", x.now(3), NONE);
        due("undo() of ahead()", x.undo(), 2);
        due("now(2)", x.now(2), 0);
        due("undo() of verse()", x.undo(), 1);
        due("now(0)", x.now(0), 1);
        due("now(1)", x.now(1), 2);
        lates("undone", x, 3, 1);
        due("undo() of line()", x.undo(), 0);
        due("now(0)", x.now(0), 0);
        due("now(1)", x.now(1), 0);
        lates("undone", x, 0, 0);
        due("undo()", x.undo(), STATE);
        // What changes nothing is not refused.
        x.ahead(0);
        x.waits(5);
        x.choir(NONE);
        x.knows(0, 0);
        due("now(6)", x.now(6), 4);
    }

    private static void undoneAround() {
        sentence = "(10 are known, older ones are lost)";
        BehindOrgan x = church("p0 0 0 1;");
        lines(x, 8);
        x.undo();
        x.undo();
        lines(x, 7);
        due("now(6)", x.now(6), 10);
        lates("13 lines", x, 13);
        for (int i = 0; i < 6; i++) {
            x.undo();
        }
        lates("7 lines", x, 7);
        lines(x, 3);
        due("now(6)", x.now(6), 7);
        for (int i = 6; i >= 0; i--) {
            due("undo()", x.undo(), i);
        }
        lates("3 lines", x, 3);
        due("undo()", x.undo(), STATE);
    }

    private static void notUndone() {
        sentence = "UNDONE: the latest line(), verse(), ahead(), choir(), knows(), waits()";
        BehindOrgan x = church("p0 0 0 1;");
        x.line();
        x.hear(1, 0, 1);
        x.hear(1, 0, 2);
        x.forget();
        x.hear(1, 0, 1);
        x.keep(0);
        x.rate(0, 0);
        type(x, "w1;");
        x.clear();
        type(x, "w1;w");
        x.church();
        due("now(6)", x.now(6), 1);
        due("undo()", x.undo(), 0);
        due("HEARD", x.count(3), 1);
        due("letters", x.count(4), 4);
        due("trace()", x.trace(), 1);
        due("back(0)", x.back(0), 1);
        lates("the image", x, 1);
    }

    // ---- what comes

    private static void whatComes() {
        behind();
        asleep();
        rest();
    }

    private static void behind() {
        sentence = "BEHIND n (0 .. 60) LINES: LATE of a PEW, PACE, APART: the greatest LATE less the least.";
        BehindOrgan x = church("p0 0 0 0;p0 0 0 2;p0 0 0 5;");
        for (int n : new int[] {-1, 0, 1, 59, 60, 61}) {
            boolean isTold = n >= 0 && n <= 60;
            due("behind(" + n + ", 0)", x.behind(n, 0), isTold ? 0 : BAD);
            due("behind(" + n + ", 1)", x.behind(n, 1), isTold ? 2 * n : BAD);
            due("behind(" + n + ", 2)", x.behind(n, 2), isTold ? 5 * n : BAD);
            due("behind(" + n + ", -1)", x.behind(n, -1), isTold ? 0 : BAD);
            due("behind(" + n + ", -2)", x.behind(n, -2), isTold ? 5 * n : BAD);
            due("behind(" + n + ", -3)", x.behind(n, -3), BAD);
            due("behind(" + n + ", 3)", x.behind(n, 3), BAD);
        }
        due("behind(0, NONE)", x.behind(0, NONE), BAD);
        due("behind(1, -1) by WAIT", church("p0 0 0 9;w10;").behind(60, -1), 540);
        due("behind(60, -2) of no pews", new BehindOrgan().behind(60, -2), 0);
        due("behind(60, -1) of no pews", new BehindOrgan().behind(60, -1), 0);
        due("behind(60, 0) of no pews", new BehindOrgan().behind(60, 0), BAD);
        due("behind(60, -2) of one", church("p0 0 0 9;").behind(60, -2), 0);
        sentence = "5 APART (no PEWS: 0)";
        due("now(5) of no pews", new BehindOrgan().now(5), 0);
        // All below 0, and all above.
        BehindOrgan e = church("p0 5 0 0;p0 2 0 0;");
        e.ahead(20);
        e.line();
        lates("early", e, -10, -5);
        due("now(5)", e.now(5), 5);
        BehindOrgan s = church("p0 0 0 4;p0 0 0 9;p0 0 0 7;");
        s.line();
        due("now(5)", s.now(5), 5);
        BehindOrgan one = church("p0 0 0 4;");
        one.line();
        due("now(5) of one", one.now(5), 0);
    }

    private static void asleep() {
        sentence = "ASLEEP by p (1 .. 9999): the fewest LINES (0 .. 60) behind which PACE is p at least; NONE.";
        BehindOrgan x = church("p0 0 0 9;w10;");
        int[] paces = {0, 1, 8, 9, 10, 18, 19, 531, 532, 540, 541, 9999, 10000};
        int[] want = {BAD, 1, 1, 1, 2, 2, 3, 59, 60, 60, NONE, NONE, BAD};
        for (int i = 0; i < paces.length; i++) {
            due("asleep(" + paces[i] + ")", x.asleep(paces[i]), want[i]);
        }
        x.line();
        due("asleep(9) now", x.asleep(9), 0);
        due("asleep(10) now", x.asleep(10), 1);
        due("asleep(549) now", x.asleep(549), 60);
        due("asleep(550) now", x.asleep(550), NONE);
        due("asleep(1) of no pews", new BehindOrgan().asleep(1), NONE);
    }

    private static void rest() {
        sentence = "REST: the fewest LINES (0 .. 60) behind which one LINE more changes no LATE; NONE.";
        due("rest() of no pews", new BehindOrgan().rest(), 0);
        due("rest() of one that never moves", church("p0 0 0 0;").rest(), 0);
        due("rest(), PACE alone grows", church("p0 0 0 9;w10;").rest(), 0);
        due("rest() of one that never rests", church("p0 0 0 1;").rest(), NONE);
        due("rest(), the last one alone moves", church("p0 0 0 0;".repeat(5) + "p0 0 0 1;").rest(), NONE);
        due("rest(), the first one alone moves", church("p0 0 0 1;" + "p0 0 0 0;".repeat(5)).rest(), NONE);
        // 999 behind 111 lines.
        int[] sung = {0, 49, 50, 51, 52, 110, 111, 112};
        int[] want = {NONE, NONE, NONE, 60, 59, 1, 0, 0};
        for (int i = 0; i < sung.length; i++) {
            due("rest() behind " + sung[i], sung(sung[i], "p0 0 0 9;l9;g0;", 9).rest(), want[i]);
        }
    }

    // ---- what is best

    private static void whatIsBest() {
        playAhead();
        seat();
        knowers();
        pulls();
        change();
        gaps();
    }

    private static void playAhead() {
        sentence = "PLAY AHEAD for n (1 .. 30) LINES: that AHEAD (0 .. 20) .. the least; how much that is";
        BehindOrgan x = church("p0 0 0 2;");
        for (int n : new int[] {0, 1, 2, 29, 30, 31}) {
            boolean isTold = n >= 1 && n <= 30;
            due("playAhead(" + n + ", 0)", x.playAhead(n, 0), isTold ? 0 : BAD);
            due("playAhead(" + n + ", 1)", x.playAhead(n, 1), isTold ? 2 * n : BAD);
            due("playAhead(" + n + ", -1)", x.playAhead(n, -1), BAD);
            due("playAhead(" + n + ", 2)", x.playAhead(n, 2), BAD);
        }
        due("playAhead(30, 0) of no pews", new BehindOrgan().playAhead(30, 0), 0);
        due("playAhead(30, 1) of no pews", new BehindOrgan().playAhead(30, 1), 0);
        // 5 times (10 less a) by 10 and h: 0 from a = 10 and 2 h on (5 times a cut towards 0).
        int[] best = {9, 12, 14, 16, 18, 20, 20, 20};
        int[] least = {0, 0, 0, 0, 0, 0, 1, 2};
        for (int h = 0; h < best.length; h++) {
            BehindOrgan y = church("p60 5 0 " + h + ";");
            y.ahead(20);
            due("playAhead(1, 0) by HABIT " + h, y.playAhead(1, 0), best[h]);
            due("playAhead(1, 1) by HABIT " + h, y.playAhead(1, 1), least[h]);
        }
        // The first is 4 late by every AHEAD, and the other one never more than that from 0 on.
        BehindOrgan z = church("p0 0 0 4;p24 5 0 0;");
        due("playAhead(1, 0), without sign", z.playAhead(1, 0), 0);
        due("playAhead(1, 1), without sign", z.playAhead(1, 1), 4);
        // The first is 4 late again; the other one 5 by AHEAD 0, and 4 by 1.
        BehindOrgan w = church("p0 0 0 4;p60 5 0 0;");
        due("playAhead(1, 0)", w.playAhead(1, 0), 1);
        // -5 late: 25 by 10 of that is left by AHEAD 0, and more is early by every other.
        BehindOrgan e = church("p0 5 0 0;");
        e.ahead(10);
        e.line();
        lates("early", e, -5);
        due("playAhead(1, 0) when early", e.playAhead(1, 0), 0);
        due("playAhead(1, 1) when early", e.playAhead(1, 1), 2);
    }

    private static void seat() {
        sentence = "SEAT of the CHOIR likewise: the PEW by which APART is least (0 .., or none: NONE, the last of all)";
        BehindOrgan x = church("p0 0 0 0;p0 0 0 2;p0 0 0 5;");
        for (int n : new int[] {0, 1, 2, 29, 30, 31}) {
            boolean isTold = n >= 1 && n <= 30;
            due("seat(" + n + ", 0)", x.seat(n, 0), isTold ? 2 : BAD);
            due("seat(" + n + ", 1)", x.seat(n, 1), isTold ? 2 * n : BAD);
            due("seat(" + n + ", -1)", x.seat(n, -1), BAD);
            due("seat(" + n + ", 2)", x.seat(n, 2), BAD);
        }
        due("seat(1, 0) of no pews", new BehindOrgan().seat(1, 0), NONE);
        due("seat(1, 1) of no pews", new BehindOrgan().seat(1, 1), 0);
        due("seat(1, 0) of one", church("p0 0 0 9;").seat(1, 0), 0);
        due("seat(1, 0), all alike", church("p0 0 0 0;".repeat(6)).seat(1, 0), 0);
        due("seat(1, 0), the last pew", church("p0 0 0 0;".repeat(5) + "p0 0 0 9;").seat(1, 0), 5);
        due("seat(1, 0), none is better", church("p0 0 0 9;".repeat(6)).seat(1, 0), NONE);
        due("seat(1, 1), none is better", church("p0 0 0 9;".repeat(6)).seat(1, 1), 0);
        due("seat(1, 0), the second is as good", church("p0 0 0 0;p0 0 0 9;p0 0 0 9;").seat(1, 0), 0);
        due("seat(1, 1), the second is as good", church("p0 0 0 0;p0 0 0 9;p0 0 0 9;").seat(1, 1), 9);
        // The CHOIR that is there stays away from what is tried.
        BehindOrgan c = church("p0 0 0 9;p0 0 0 9;");
        c.choir(0);
        due("seat(1, 0) with a choir", c.seat(1, 0), NONE);
        due("seat(1, 1) with a choir", c.seat(1, 1), 0);
        due("now(3)", c.now(3), 0);
    }

    private static void knowers() {
        sentence = "KNOWERS for n LINES, d (0 .. 99): the fewest PEWS .. (of as few the least bits); NONE.";
        BehindOrgan x = church("p0 0 0 0;p0 0 0 3;");
        int[] ns = {0, 1, 29, 30, 31};
        int[] atMost = {BAD, 0, 0, 0, BAD};
        int[] below = {BAD, 2, 2, 2, BAD};
        for (int i = 0; i < ns.length; i++) {
            due("knowers(" + ns[i] + ", 3 n)", x.knowers(ns[i], 3 * ns[i]), atMost[i]);
            due("knowers(" + ns[i] + ", 3 n less 1)", x.knowers(ns[i], 3 * ns[i] - 1), below[i]);
            due("knowers(" + ns[i] + ", -1)", x.knowers(ns[i], -1), BAD);
            due("knowers(" + ns[i] + ", 100)", x.knowers(ns[i], 100), BAD);
        }
        due("knowers(1, 0)", x.knowers(1, 0), 2);
        due("knowers(1, 0) of no pews", new BehindOrgan().knowers(1, 0), 0);
        due("knowers(1, 0) of one", church("p0 0 0 9;").knowers(1, 0), 0);
        // 99, 108 and 117 are apart behind 11, 12 and 13 lines.
        BehindOrgan far = church("p0 0 0 0;p0 0 0 9;");
        lines(far, 10);
        due("knowers(1, 99), 99 apart", far.knowers(1, 99), 0);
        far.line();
        due("knowers(1, 99), 108 apart", far.knowers(1, 99), 2);
        due("knowers(1, 98), 108 apart", far.knowers(1, 98), NONE);
        far.line();
        due("knowers(1, 99), 117 apart", far.knowers(1, 99), NONE);
        // 1 .. 6 late behind a line: who is more than d late must know it.
        BehindOrgan six = church("p0 0 0 1;p0 0 0 2;p0 0 0 3;p0 0 0 4;p0 0 0 5;p0 0 0 6;");
        int[] six1 = {63, 62, 60, 56, 48, 0};
        for (int d = 0; d < 6; d++) {
            due("knowers(1, " + d + ")", six.knowers(1, d), six1[d]);
        }
        knowersBesides();
    }

    private static void knowersBesides() {
        sentence = "KNOWERS .. that must KNOW it too, besides those who do";
        BehindOrgan x = church("p0 0 0 0;p0 0 0 4;p0 0 0 4;");
        due("knowers(1, 0)", x.knowers(1, 0), 6);
        x.knows(1, 1);
        due("knowers(1, 0), the second does", x.knowers(1, 0), 4);
        x.knows(2, 1);
        due("knowers(1, 0), both do", x.knowers(1, 0), 0);
        x.knows(1, 0);
        due("knowers(1, 0), the third does", x.knowers(1, 0), 2);
        sentence = "(of as few the least bits)";
        // 0, 0 and 4: 4 apart if either of the late ones comes to 0, and if none does.
        due("knowers(1, 4)", church("p0 0 0 0;p0 0 0 4;p0 0 0 4;").knowers(1, 4), 0);
        // The second hears both beside it alike, so either may know it (PromisesTest says how far apart they are).
        BehindOrgan y = church("p0 9 0 5;p60 0 9 0;p0 9 0 5;p0 9 0 0;");
        due("knowers(30, 15), the first or the third", y.knowers(30, 15), 1);
        due("knowers(30, 11), both", y.knowers(30, 11), 5);
    }

    private static void pulls() {
        sentence = "PULLS by n LINES: the PEW without which .. PACE is least, if that is less than with all; the least; NONE.";
        for (int n : new int[] {0, 1, 30, 31}) {
            int want = n == 0 || n == 31 ? BAD : 1;
            due("pulls(" + n + ")", church("p0 0 0 0;p0 0 0 9;w10;").pulls(n), want);
        }
        due("pulls(1) of no pews", new BehindOrgan().pulls(1), NONE);
        due("pulls(1) of one", church("p0 0 0 9;w10;").pulls(1), 0);
        due("pulls(1) of one who is in time", church("p0 0 0 0;w10;").pulls(1), NONE);
        due("pulls(30), he does not wait", church("p0 0 0 9;p0 0 0 0;").pulls(30), NONE);
        due("pulls(1), all alike", church("p0 0 0 9;".repeat(6) + "w10;").pulls(1), NONE);
        due("pulls(1), the last", church("p0 0 0 0;".repeat(5) + "p0 0 0 9;w10;").pulls(1), 5);
        due("pulls(1), the first of two", church("p0 0 0 9;p0 0 0 0;p0 0 0 9;w10;").pulls(1), 0);
        sentence = "(as if it were not there: those next to it are next to one another)";
        // Without the middle one: 10 BETWEEN the others, 9 times 10 by 14 is 6 each; with it 0, 9, 0 is 3.
        due("pulls(1)", church("p0 0 9 0;p30 0 0 9;p60 0 9 0;w10;").pulls(1), NONE);
        // A pew left alone goes by no neighbours: 90 by 14 is 6 (with them 90 by 23 is 3); 3 and 3, not less.
        due("pulls(1), one is left", church("p60 9 9 0;p60 9 9 0;w10;").pulls(1), NONE);
        // Two late ones: 9 times 10 by 14, 6 each beside one another; alone both are in time: the least.
        due("pulls(1), none is left beside it", church("p0 0 9 0;p60 0 9 0;w10;").pulls(1), 0);
        // With the last pew goes its CHOIR, and a CHOIR behind the pew that goes stays where it sings.
        BehindOrgan c = church("p0 0 0 8;p0 0 0 4;p0 0 0 8;w10;");
        c.choir(2);
        // 8, 4, 0 is 4; 4, 0 is 2; 8, 0 is 4; 8, 4 is 6.
        due("pulls(1), a CHOIR in the last", c.pulls(1), 0);
        c.choir(0);
        // 0, 4, 8 is 4; 4, 8 is 6; 0, 8 is 4; 0, 4 is 2.
        due("pulls(1), a CHOIR in the first", c.pulls(1), 2);
        c.choir(NONE);
        c.knows(2, 1);
        due("pulls(1), the last one KNOWS it", c.pulls(1), 0);
        c.knows(2, 0);
        c.knows(0, 1);
        due("pulls(1), the first one KNOWS it", c.pulls(1), 2);
        // PACE that was there already is there without them too.
        BehindOrgan x = church("p0 0 0 9;w10;");
        x.line();
        x.knows(0, 1);
        due("pulls(1), PACE is 9 with and without", x.pulls(1), NONE);
    }

    private static void change() {
        sentence = "CHANGE by n LINES: the first two PEWS (10 times the lesser and the other one) .. NONE.";
        // 0 and (6 and 5) by 9 times 10 by 14; the other way 6 and 5.
        BehindOrgan x = church("p0 9 0 0;p60 9 0 5;");
        for (int n : new int[] {0, 1, 30, 31}) {
            due("change(" + n + ")", x.change(n), n == 0 || n == 31 ? BAD : 1);
        }
        due("change(1) of no pews", new BehindOrgan().change(1), NONE);
        due("change(1) of one", church("p60 9 0 9;").change(1), NONE);
        due("change(1), as good without", church("p60 9 0 0;p60 9 0 0;").change(1), NONE);
        due("change(1), no better by it", church("p0 9 0 0;p60 9 0 0;").change(1), NONE);
        String still = "p30 0 0 3;";
        due("change(1), the last two", church(still.repeat(4) + "p60 9 0 6;p0 9 0 0;").change(1), 45);
        due("change(1), the first and the last", church("p60 9 0 6;" + still.repeat(4) + "p0 9 0 0;").change(1), 5);
        due("change(1), the first of two ways", church("p60 9 0 6;p0 9 0 0;p0 9 0 0;p60 9 0 0;").change(1), 1);
        // Yards are nothing to the deaf, whatever was asked just now.
        BehindOrgan deaf = church("p0 0 0 0;p60 0 0 9;");
        due("behind(30, -2)", deaf.behind(30, -2), 270);
        due("change(1) of the deaf", deaf.change(1), NONE);
        sentence = "by whose changing places (YARDS alone, LATE stay where they sing)";
        // 5 and 0 late; by 0 and 30 yards ORGAN 5 gives 0 and 2, the other way 2 and 0; LATE by half: 2 and 0.
        BehindOrgan y = church("p0 5 0 5;p30 5 0 0;");
        y.line();
        lates("a line", y, 5, 2);
        y.knows(0, 1);
        // Now: 25 / 10 and (25 + 10) / 10, 2 and 3; changed: 50 / 10 and 10 / 10, 5 and 1.
        due("behind(1, -2)", y.behind(1, -2), 1);
        due("change(1)", y.change(1), NONE);
        due("pew(0, 0)", y.pew(0, 0), 0);
    }

    private static void gaps() {
        sentence = "GAPS: the least GAP (0 .. 9) by which .. no LATE (without sign) is above d (0 .. 99); NONE.";
        // 90 behind ten lines, 99 behind the next, 100 never by 9.
        BehindOrgan x = church("p0 0 0 9;l1;g0;");
        lines(x, 10);
        due("gaps(100)", x.gaps(100), BAD);
        due("gaps(-1)", x.gaps(-1), BAD);
        due("gaps(99) of 99", x.gaps(99), 0);
        due("gaps(98) of 99", x.gaps(98), 1);
        due("gaps(9) of 99", x.gaps(9), 9);
        due("gaps(8) of 99", x.gaps(8), NONE);
        due("gaps(0) of 99", x.gaps(0), NONE);
        x.line();
        due("gaps(99) of 108", x.gaps(99), 1);
        lines(x, 105);
        due("gaps(99) of 999", x.gaps(99), 9);
        due("gaps(98) of 999", x.gaps(98), NONE);
        due("gaps(0) of 9", church("p0 0 0 9;l1;").gaps(0), 9);
        due("gaps(0) of 8", church("p0 0 0 8;l1;").gaps(0), 8);
        due("gaps(0) of 0", church("p0 0 0 0;l9;").gaps(0), 0);
        due("gaps(0) of no pews", new BehindOrgan().gaps(0), 0);
        due("gaps(0) of the last", church("p0 0 0 0;".repeat(5) + "p0 0 0 9;l1;").gaps(0), 9);
        // -10 by AHEAD 20 and ORGAN 5.
        BehindOrgan e = church("p0 5 0 0;l1;");
        e.ahead(20);
        due("gaps(10) of -10", e.gaps(10), 0);
        due("gaps(9) of -10", e.gaps(9), 1);
        due("gaps(1) of -10", e.gaps(1), 5);
        due("gaps(0) of -10", e.gaps(0), NONE);
        // LINES as told, from NOW on.
        for (int n = 1; n <= 9; n++) {
            BehindOrgan l = church("p0 0 0 1;l" + n + ";");
            due("gaps(n) of " + n, l.gaps(n), 0);
            due("gaps(n less 1) of " + n, l.gaps(n - 1), 1);
        }
    }

    // ---- what was heard, by chance

    private static void whatWasHeard() {
        heardAtMost();
        heardNumbers();
        waited();
        odds();
        oddsOnTheBounds();
    }

    private static void heardAtMost() {
        sentence = "HEARD (6 at most)";
        BehindOrgan x = church("p0 0 0 9;");
        due("forget() of nothing", x.forget(), 0);
        for (int i = 1; i <= 6; i++) {
            due("hear(1, 0, 9) " + i, x.hear(1, 0, 9), i);
            due("count(3)", x.count(3), i);
        }
        due("hear(1, 0, 9) 7", x.hear(1, 0, 9), FULL);
        due("hear(1, 0, 0) 7", x.hear(1, 0, 0), FULL);
        due("count(3)", x.count(3), 6);
        due("waited() by six", x.waited(), 3);
        due("forget()", x.forget(), 6);
        due("count(3)", x.count(3), 0);
        due("waited() by none", x.waited(), 2047);
        due("hear(1, 0, 9)", x.hear(1, 0, 9), 1);
        // The sixth counts.
        BehindOrgan y = church("p0 0 0 9;");
        for (int i = 1; i <= 5; i++) {
            y.hear(1, 0, 9);
        }
        y.hear(1, 0, 8);
        due("waited() by the sixth", y.waited(), 0);
    }

    private static void heardNumbers() {
        sentence = "behind LINE i (1 .. 20) from the beginning .. a PEW's LATE was v (-99 .. 999)";
        int[] is = {-1, 0, 1, 2, 19, 20, 21, 22};
        for (int i : is) {
            due("hear(" + i + ", 0, 0)", church("p0 0 0 9;").hear(i, 0, 0), i >= 1 && i <= 20 ? 1 : BAD);
        }
        int[] vs = {-1000, -100, -99, -98, 0, 998, 999, 1000, 1001};
        for (int v : vs) {
            due("hear(1, 0, " + v + ")", church("p0 0 0 9;").hear(1, 0, v), v >= -99 && v <= 999 ? 1 : BAD);
        }
        for (int k = -1; k <= 3; k++) {
            due("hear(1, " + k + ", 0)", church("p0 0 0 9;p0 0 0 9;p0 0 0 9;").hear(1, k, 0), k >= 0 && k < 3 ? 1 : BAD);
        }
        due("hear(1, 0, 0) of no pews", new BehindOrgan().hear(1, 0, 0), BAD);
        // One is in time, five are late by 9: by WAIT 10 he waits 7 and more, the first is early by all of it.
        BehindOrgan x = church("p0 0 0 0;" + "p0 0 0 9;".repeat(5) + "w10;");
        x.keep(0);
        for (int i = 1; i <= 20; i++) {
            x.line();
            int late = x.pew(0, 4);
            x.forget();
            due("hear(" + i + ", 0, " + late + ")", x.hear(i, 0, late), late < -99 ? BAD : 1);
            due("bit 10 of waited()", x.waited() >> 10, 1);
        }
        due("it was below -99 at last", x.pew(0, 4) < -99 ? 1 : 0, 1);
    }

    private static void waited() {
        sentence = "WAITED: WAITS (bits 0 .. 10) by which all that was HEARD is so.";
        due("of nothing", new BehindOrgan().waited(), 2047);
        // 9 less (WAIT times 9 by 10).
        int[] bits = {1024, 512, 256, 128, 64, 32, 16, 8, 4, 3, 0};
        for (int late = 0; late <= 10; late++) {
            BehindOrgan x = church("p0 0 0 9;w4;");
            x.hear(1, 0, late);
            due("heard " + late, x.waited(), bits[late]);
        }
        BehindOrgan y = church("p0 0 0 9;");
        y.hear(20, 0, 180);
        due("by LINE 20", y.waited(), 1);
        y.hear(1, 0, 9);
        due("by LINE 1 too", y.waited(), 1);
        y.hear(1, 0, 0);
        due("by what is not so", y.waited(), 0);
        // 0 and 9 late, less WAIT times 4 by 10.
        BehindOrgan t = church("p0 0 0 0;p0 0 0 9;");
        t.hear(1, 1, 9);
        due("by the last pew", t.waited(), 7);
        t.hear(1, 0, 0);
        due("by the first pew too", t.waited(), 7);
        t.hear(1, 1, 0);
        due("by the last pew, not so", t.waited(), 0);
        sentence = "(as told, AHEAD 0, no CHOIR, nobody KNOWS it, no VERSES)";
        BehindOrgan z = church("p60 5 0 9;l1;g9;");
        z.ahead(20);
        z.choir(0);
        z.knows(0, 1);
        z.waits(10);
        z.verse();
        z.hear(1, 0, 14);
        z.hear(2, 0, 21);
        due("whatever is so now", z.waited(), 1);
    }

    private static void odds() {
        sentence = "ODDS by a (0 .. 20), p (0 .. 10), n (0 .. 6), d (0 .. 99)";
        int[] least = {0, 0, 0, 0, 0};
        int[] most = {20, 10, 6, 99, 1};
        BehindOrgan x = church("p0 0 0 0;p60 5 0 3;");
        for (int i = 0; i < 5; i++) {
            for (int v : new int[] {least[i] - 1, most[i] + 1, BAD, NONE, Integer.MAX_VALUE, Integer.MIN_VALUE}) {
                int[] a = {10, 5, 2, 9, 1};
                a[i] = v;
                due("number " + i + " is " + v, x.odds(a[0], a[1], a[2], a[3], a[4]), BAD);
            }
            for (int v : new int[] {least[i], most[i]}) {
                int[] a = {10, 5, 2, 9, 1};
                a[i] = v;
                due("number " + i + " is " + v + ", BAD", x.odds(a[0], a[1], a[2], a[3], a[4]) == BAD ? 1 : 0, 0);
            }
        }
        due("of no pews, upper", new BehindOrgan().odds(20, 5, 6, 0, 0), 1);
        due("of no pews, lower", new BehindOrgan().odds(20, 5, 6, 0, 1), 1);
        sentence = "each of n LINES he plays AHEAD a by p of 10, else 0: that APART is d at most behind them";
        // 9 a line, eleven lines.
        BehindOrgan now = church("p0 0 0 0;p0 0 0 9;");
        lines(now, 11);
        due("99 apart now", now.odds(0, 0, 0, 99, 0), 1);
        due("98 at most", now.odds(0, 0, 0, 98, 0), 0);
        due("98 at most, lower", now.odds(0, 0, 0, 98, 1), 1);
        now.line();
        due("108 apart now", now.odds(0, 0, 0, 99, 0), 0);
    }

    /** The other one is in time; this one 10 times 5 by 10, and 3, if he forgets; 3 if he plays AHEAD 10. */
    private static void oddsOnTheBounds() {
        sentence = "ODDS: upper (what = 0), lower number (1), in least terms. BAD.";
        BehindOrgan x = church("p0 0 0 0;p60 5 0 3;");
        for (int p = 0; p <= 10; p++) {
            int common = p == 0 || p == 10 ? 10 : p == 5 ? 5 : p % 2 == 0 ? 2 : 1;
            due("3 at most by " + p, x.odds(10, p, 1, 3, 0), p / common);
            due("3 at most by " + p + ", lower", x.odds(10, p, 1, 3, 1), 10 / common);
            due("2 at most by " + p, x.odds(10, p, 1, 2, 0), 0);
            due("2 at most by " + p + ", lower", x.odds(10, p, 1, 2, 1), 1);
            due("8 at most by " + p, x.odds(10, p, 1, 8, 0), 1);
            due("8 at most by " + p + ", lower", x.odds(10, p, 1, 8, 1), 1);
        }
        // By ORGAN 1 and HABIT 9 nothing of a line is lost in six: he must forget all six to be so far apart, 7 by 10 each.
        BehindOrgan six = church("p0 0 0 0;p60 1 0 9;");
        int all = six.behind(6, -2);
        due("all forgotten only is above, 3 by 10", six.odds(20, 3, 6, all - 1, 0), 1000000 - 117649);
        due("all forgotten only is above, lower", six.odds(20, 3, 6, all - 1, 1), 1000000);
        due("all of it", six.odds(20, 3, 6, all, 0), 1);
    }

    // ---- kinds and images

    private static void kindsAndImages() {
        kinds();
        images();
        readAnew();
        others();
        calls();
    }

    private static void kinds() {
        sentence = "KINDS of PEWS are over one another .. RATE of a PEW as if of a KIND";
        // 8 late, LAG 10, HABIT 8, number 1, PACE 0.
        BehindOrgan x = church("p0 0 0 0;p60 0 0 8;");
        x.line();
        int[] want = {BAD, 8, 18, 0, 36, 1, 8, BAD};
        long[] traces = {0, 1, 11, 101, 1011, 10101, 100001, 0};
        long trace = 0;
        for (int kind = -1; kind <= 6; kind++) {
            due("rate(" + kind + ", 1)", x.rate(kind, 1), want[kind + 1]);
            trace += traces[kind + 1];
            due("trace()", x.trace(), trace);
            due("rate(" + kind + ", 2)", x.rate(kind, 2), BAD);
            due("rate(" + kind + ", -1)", x.rate(kind, -1), BAD);
            due("trace() behind what is refused", x.trace(), trace);
        }
        // Early: -12 by ORGAN 9 and AHEAD 20; twice (-12 and 0), and its number of 0.
        BehindOrgan e = church("p0 9 0 0;");
        e.ahead(20);
        e.line();
        int[] early = {-12, -12, -12, -24, -12, -12};
        for (int kind = 0; kind <= 5; kind++) {
            due("rate(" + kind + ", 0) when early", e.rate(kind, 0), early[kind]);
        }
        sentence = "STRANGERS up, and PACE (100000)";
        BehindOrgan s = church("p0 0 0 9;w5;");
        s.line();
        due("rate(5, 0)", s.rate(5, 0), 9);
        due("rate(0, 0)", s.rate(0, 0), 5);
        due("trace() of many", manyRates(), 100 * 100001L);
    }

    private static long manyRates() {
        BehindOrgan x = church("p0 0 0 9;");
        for (int i = 0; i < 100; i++) {
            x.rate(5, 0);
        }
        return x.trace();
    }

    private static void images() {
        sentence = "IMAGES 0, 1 keep NOW (LATE, AHEAD, CHOIR, KNOW, WAIT, PACE, LINES that were sung); nothing else";
        BehindOrgan x = church("p0 0 0 9;p0 0 0 1;w5;l2;g1;");
        for (int image = -1; image <= 2; image++) {
            boolean isOne = image == 0 || image == 1;
            due("back(" + image + ")", x.back(image), isOne ? STATE : BAD);
        }
        x.keep(0);
        x.line();
        x.ahead(3);
        x.choir(1);
        x.knows(0, 1);
        x.waits(9);
        due("keep(1)", x.keep(1), 1);
        due("keep(2)", x.keep(2), BAD);
        due("keep(-1)", x.keep(-1), BAD);
        lates("kept", x, 7, -1);
        x.hear(1, 0, 7);
        x.rate(0, 0);
        x.type('w');
        due("back(0)", x.back(0), 0);
        isNow(x, 0, 0, 0, NONE, 5, 0, 0);
        lates("back(0)", x, 0, 0);
        due("pew(0, 6)", x.pew(0, 6), 0);
        due("back(1)", x.back(1), 1);
        isNow(x, 1, 2, 3, 1, 9, 8, 0);
        lates("back(1)", x, 7, -1);
        due("pew(0, 6)", x.pew(0, 6), 1);
        due("HEARD", x.count(3), 1);
        due("letters", x.count(4), 1);
        due("trace()", x.trace(), 1);
        sentence = "(nothing can be UNDONE behind back())";
        due("undo()", x.undo(), STATE);
        x.waits(8);
        due("undo() of what was done then", x.undo(), 0);
        due("now(4)", x.now(4), 9);
        sentence = "An IMAGE is kept: LINES that were sung. BAD.";
        x.line();
        due("keep(0) over the old one", x.keep(0), 2);
        x.line();
        due("back(0)", x.back(0), 2);
        due("back(0) again", x.back(0), 2);
        due("back(1), the other one", x.back(1), 1);
    }

    private static void isNow(BehindOrgan x, int... want) {
        for (int i = 0; i < want.length; i++) {
            due("now(" + i + ")", x.now(i), want[i]);
        }
    }

    private static void readAnew() {
        sentence = "(Read anew: as told, nothing HEARD, IMAGES are gone.)";
        BehindOrgan x = church("p0 0 0 9;w5;l2;g1;");
        x.keep(0);
        x.line();
        x.ahead(3);
        x.choir(0);
        x.knows(0, 1);
        x.waits(9);
        x.keep(1);
        x.hear(1, 0, 7);
        type(x, "p0 0 0 9;w5;l2;g1;");
        due("church()", x.church(), 4);
        isNow(x, 0, 0, 0, NONE, 5, 0, 0);
        due("pew(0, 4)", x.pew(0, 4), 0);
        due("pew(0, 6)", x.pew(0, 6), 0);
        due("HEARD", x.count(3), 0);
        due("waited()", x.waited(), 2047);
        due("back(0)", x.back(0), STATE);
        due("back(1)", x.back(1), STATE);
        due("undo()", x.undo(), STATE);
        due("line() goes by HABIT again", x.line(), 4);
        due("an empty text too", x.church(), 0);
        isNow(x, 0, 0, 0, NONE, 0, 0, 0);
        due("pews", x.count(0), 0);
    }

    private static void others() {
        sentence = "0 PEWS, 1 LINES of a verse, 2 GAP, 3 HEARD, 4 letters of THE TEXT. BAD.";
        BehindOrgan x = church("p0 0 0 9;p0 0 0 9;l5;g7;");
        x.hear(1, 0, 9);
        x.hear(1, 1, 9);
        x.hear(1, 1, 9);
        type(x, "w100");
        int[] counts = {BAD, 2, 5, 7, 3, 4, BAD};
        for (int i = -1; i <= 5; i++) {
            due("count(" + i + ")", x.count(i), counts[i + 1]);
        }
        sentence = "0 LINES that were sung, 1 PACE, .. 6 how many may be UNDONE. BAD.";
        due("now(-1)", x.now(-1), BAD);
        due("now(7)", x.now(7), BAD);
        isNow(x, 0, 0, 0, NONE, 0, 0, 0);
        sentence = "Of a PEW: 0 YARDS, 1 ORGAN, .. 6 whether it KNOWS it. BAD.";
        for (int k = -1; k <= 2; k++) {
            due("pew(" + k + ", -1)", x.pew(k, -1), BAD);
            due("pew(" + k + ", 7)", x.pew(k, 7), BAD);
            due("pew(" + k + ", 3)", x.pew(k, 3), k == 0 || k == 1 ? 9 : BAD);
        }
    }

    private static void calls() {
        sentence = "An object is used for at most 512 calls after it has been made";
        BehindOrgan x = church("p0 0 0 1;");
        for (int call = 11; call < 511; call++) {
            due("call " + call, x.line(), 0);
        }
        lates("call 511", x, 500);
        due("call 512", x.undo(), 9);
    }
}
