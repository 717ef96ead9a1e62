import java.util.ArrayList;
import java.util.Arrays;
import java.util.List;
import java.util.function.Function;
import java.util.function.Supplier;

/**
 * Every call that is refused answers as the document says, and nothing has changed then; nor has
 * it behind a call that only asks. Two objects are made alike, one of them is called, and then
 * both are looked through: what can be seen, what can be undone, images, what was heard, the text.
 */
public final class RefusedTest {
    private static final int BAD = -1000001, STATE = -1000002, FULL = -1000003, NONE = -1000009;
    private static final int FAR = Integer.MAX_VALUE, DEEP = Integer.MIN_VALUE;

    /** What each number may be with three pews, least and most in turn. */
    private static final String[] NAMES = {"type", "pew", "now", "ahead", "choir", "knows", "waits", "behind", "asleep",
        "playAhead", "seat", "knowers", "pulls", "change", "gaps", "hear", "odds", "rate", "keep", "back", "count"};
    private static final int[][] BOUNDS = {{0, 255}, {0, 2, 0, 6}, {0, 6}, {0, 20}, {0, 2}, {0, 2, 0, 1}, {0, 10},
        {0, 60, -2, 2}, {1, 9999}, {1, 30, 0, 1}, {1, 30, 0, 1}, {1, 30, 0, 99}, {1, 30}, {1, 30}, {0, 99},
        {1, 20, 0, 2, -99, 999}, {0, 20, 0, 10, 0, 6, 0, 99, 0, 1}, {0, 5, 0, 2}, {0, 1}, {0, 1}, {0, 4}};
    private static final List<String> ASKING = List.of("pew", "now", "behind", "asleep", "playAhead", "seat", "knowers",
        "pulls", "change", "gaps", "odds", "count");
    /** Those that ask for a pew, and which of their numbers is the pew's. */
    private static final String[] OF_A_PEW = {"pew", "choir", "knows", "behind", "hear", "rate"};
    private static final int[] PEW_AT = {0, 0, 0, 1, 1, 1};

    private static int wrong = 0;

    private static void due(String what, Object got, Object want) {
        if (!got.equals(want)) {
            wrong++;
            System.out.println(what + ": " + got + ", due is " + want);
        }
    }

    public static void main(String[] args) {
        onTheBounds();
        beyondTheBounds();
        noSuchPew();
        noSuchImage();
        stateRefused();
        fullRefused();
        theFirstOfThese();
        faults();
        askingChangesNothing();
        System.out.println(wrong == 0 ? "all is refused as due" : wrong + " things are not as due");
        if (wrong != 0) {
            System.exit(1);
        }
    }

    // ---- objects that are made alike

    private static void type(BehindOrgan x, String text) {
        for (int i = 0; i < text.length(); i++) {
            x.type(text.charAt(i));
        }
    }

    private static void read(BehindOrgan x, String text) {
        x.clear();
        type(x, text);
        if (x.church() < 0) {
            due("church of " + text, -1, 0);
        }
    }

    /** Some of everything, each told apart from what it is at first: one more undoable than are known. */
    private static BehindOrgan busy() {
        BehindOrgan x = new BehindOrgan();
        read(x, "p6 5 2 1;p30 3 4 2;p60 1 6 5;w5;l3;g1;");
        x.line();
        x.knows(0, 1);
        x.keep(0);
        x.verse();
        x.ahead(4);
        x.line();
        x.choir(1);
        x.keep(1);
        x.line();
        x.knows(2, 1);
        x.waits(7);
        x.line();
        x.choir(2);
        x.ahead(9);
        x.line();
        x.hear(1, 0, 0);
        x.hear(1, 1, 2);
        x.hear(2, 2, 7);
        x.rate(4, 1);
        x.rate(3, 2);
        type(x, "l7");
        return x;
    }

    private static BehindOrgan busyWithOneImage(int image) {
        BehindOrgan x = new BehindOrgan();
        read(x, "p6 5 2 1;p30 3 4 2;p60 1 6 5;w5;l3;g1;");
        x.line();
        x.keep(image);
        x.ahead(3);
        x.line();
        return x;
    }

    private static BehindOrgan busyWithFullText() {
        BehindOrgan x = busy();
        type(x, " ".repeat(198));
        return x;
    }

    private static BehindOrgan busyWithMuchHeard() {
        BehindOrgan x = busy();
        x.hear(3, 2, 8);
        x.hear(4, 2, 9);
        x.hear(20, 0, 1);
        return x;
    }

    private static BehindOrgan sung(int lines) {
        BehindOrgan x = new BehindOrgan();
        read(x, "p6 5 2 1;p30 3 4 2;p60 1 6 5;w5;l9;g1;");
        x.keep(0);
        for (int i = 0; i < lines / 9; i++) {
            x.verse();
        }
        x.keep(1);
        for (int i = 0; i < lines % 9; i++) {
            x.line();
        }
        due("lines that were sung", x.now(0), lines);
        return x;
    }

    private static BehindOrgan undone() {
        BehindOrgan x = busy();
        for (int i = 0; i < 10; i++) {
            x.undo();
        }
        due("all is undone", x.now(6), 0);
        return x;
    }

    // ---- what there is to see

    /** Some 230 calls of three pews: with those that made the object, fewer than the 512 it is good for. */
    private static List<Long> story(BehindOrgan x) {
        List<Long> told = new ArrayList<>();
        int pews = x.count(0);
        look(x, told);
        told.add((long) x.behind(3, -2));
        told.add((long) x.rest());
        told.add((long) x.pulls(4));
        told.add((long) x.change(4));
        told.add((long) x.waited());
        told.add(x.odds(5, 5, 2, 4, 0));
        for (int i = 0; i <= 10; i++) {
            told.add((long) x.undo());
            glance(x, pews, told);
        }
        for (int image = 1; image >= 0; image--) {
            told.add((long) x.back(image));
            glance(x, pews, told);
        }
        told.add((long) x.type(';'));
        told.add((long) x.church());
        look(x, told);
        told.add((long) x.clear());
        return told;
    }

    private static void look(BehindOrgan x, List<Long> told) {
        int pews = x.count(0);
        for (int i = 0; i < 5; i++) {
            told.add((long) x.count(i));
        }
        for (int k = 0; k < pews; k++) {
            for (int i = 0; i < 4; i++) {
                told.add((long) x.pew(k, i));
            }
        }
        glance(x, pews, told);
        told.add((long) x.now(6));
        told.add(x.trace());
    }

    private static void glance(BehindOrgan x, int pews, List<Long> told) {
        for (int i = 0; i < 5; i++) {
            told.add((long) x.now(i));
        }
        for (int k = 0; k < pews; k++) {
            told.add((long) x.pew(k, 4));
            told.add((long) x.pew(k, 6));
        }
    }

    private static void unchanged(String what, Supplier<BehindOrgan> make, Function<BehindOrgan, Long> call) {
        BehindOrgan x = make.get();
        call.apply(x);
        due(what + ", and nothing changes", story(x), story(make.get()));
    }

    private static void refused(String what, int want, Supplier<BehindOrgan> make, Function<BehindOrgan, Long> call) {
        due(what, call.apply(make.get()), (long) want);
        unchanged(what, make, call);
    }

    // ---- calls by name

    private static long call(BehindOrgan x, String name, int[] a) {
        switch (name) {
            case "type": return x.type(a[0]);
            case "pew": return x.pew(a[0], a[1]);
            case "now": return x.now(a[0]);
            case "ahead": return x.ahead(a[0]);
            case "choir": return x.choir(a[0]);
            case "knows": return x.knows(a[0], a[1]);
            case "waits": return x.waits(a[0]);
            case "behind": return x.behind(a[0], a[1]);
            case "asleep": return x.asleep(a[0]);
            case "playAhead": return x.playAhead(a[0], a[1]);
            case "seat": return x.seat(a[0], a[1]);
            case "knowers": return x.knowers(a[0], a[1]);
            case "pulls": return x.pulls(a[0]);
            case "change": return x.change(a[0]);
            case "gaps": return x.gaps(a[0]);
            case "hear": return x.hear(a[0], a[1], a[2]);
            case "odds": return x.odds(a[0], a[1], a[2], a[3], a[4]);
            case "rate": return x.rate(a[0], a[1]);
            case "keep": return x.keep(a[0]);
            case "back": return x.back(a[0]);
            default: return x.count(a[0]);
        }
    }

    private static int boundsOf(String name) {
        return Arrays.asList(NAMES).indexOf(name);
    }

    /** All numbers on their bounds: bit i of sides says which one of number i. */
    private static int[] atBounds(int which, int sides) {
        int[] a = new int[BOUNDS[which].length / 2];
        for (int i = 0; i < a.length; i++) {
            a[i] = BOUNDS[which][2 * i + (sides >> i & 1)];
        }
        return a;
    }

    private static String shown(String name, int[] a) {
        return name + Arrays.toString(a);
    }

    // ---- what is refused

    private static void onTheBounds() {
        for (int which = 0; which < NAMES.length; which++) {
            for (int sides = 0; sides < 1 << BOUNDS[which].length / 2; sides++) {
                int[] a = atBounds(which, sides);
                long got = call(busy(), NAMES[which], a);
                due(shown(NAMES[which], a) + " is refused", got == BAD || got == STATE || got == FULL, false);
            }
        }
    }

    private static void beyondTheBounds() {
        for (int which = 0; which < NAMES.length; which++) {
            String name = NAMES[which];
            for (int i = 0; i < BOUNDS[which].length / 2; i++) {
                int[] beyond = {BOUNDS[which][2 * i] - 1, BOUNDS[which][2 * i + 1] + 1, DEEP, FAR, BAD, 256 + 'w', NONE};
                for (int b : beyond) {
                    boolean isAsTold = name.equals("choir") && b == NONE || name.equals("hear") && i == 2 && b == 256 + 'w'
                        || name.equals("asleep") && b == 256 + 'w';
                    for (int sides = 0; !isAsTold && sides < 1 << BOUNDS[which].length / 2; sides++) {
                        int[] a = atBounds(which, sides);
                        a[i] = b;
                        refused(shown(name, a), BAD, RefusedTest::busy, x -> call(x, name, a));
                    }
                }
            }
        }
    }

    /** Of none, of one and of six pews. */
    private static void noSuchPew() {
        for (int pews : new int[] {0, 1, 6}) {
            Supplier<BehindOrgan> make = () -> {
                BehindOrgan x = new BehindOrgan();
                read(x, "p0 1 2 3;".repeat(pews) + "w1;");
                x.line();
                return x;
            };
            for (int i = 0; i < OF_A_PEW.length; i++) {
                String name = OF_A_PEW[i];
                int[] a = atBounds(boundsOf(name), 0);
                a[PEW_AT[i]] = pews;
                refused(shown(name, a) + " of " + pews, BAD, make, x -> call(x, name, a));
                int[] last = a.clone();
                last[PEW_AT[i]] = pews - 1;
                if (pews > 0) {
                    due(shown(name, last) + " of " + pews + " is refused", call(make.get(), name, last) == BAD, false);
                }
                int[] wrapped = a.clone();
                wrapped[PEW_AT[i]] = 32;
                refused(shown(name, wrapped) + " of " + pews, BAD, make, x -> call(x, name, wrapped));
            }
        }
    }

    private static void noSuchImage() {
        refused("back(0), none is kept", STATE, BehindOrgan::new, x -> (long) x.back(0));
        refused("back(1), none is kept", STATE, BehindOrgan::new, x -> (long) x.back(1));
        refused("back(0), 1 is kept", STATE, () -> busyWithOneImage(1), x -> (long) x.back(0));
        refused("back(1), 0 is kept", STATE, () -> busyWithOneImage(0), x -> (long) x.back(1));
        for (int image = 0; image < 2; image++) {
            int i = image;
            refused("back(" + i + ") behind church()", STATE, () -> {
                BehindOrgan x = busy();
                read(x, "p6 5 2 1;p30 3 4 2;p60 1 6 5;w5;");
                return x;
            }, x -> (long) x.back(i));
        }
    }

    private static void stateRefused() {
        refused("line() behind 999", STATE, () -> sung(999), x -> (long) x.line());
        refused("verse() behind 999", STATE, () -> sung(999), x -> (long) x.verse());
        refused("verse() of 9 behind 991", STATE, () -> sung(991), x -> (long) x.verse());
        due("verse() of 9 behind 990 is refused", sung(990).verse() == STATE, false);
        due("line() behind 998 is refused", sung(998).line() == STATE, false);
        refused("undo() of nothing done", STATE, BehindOrgan::new, x -> (long) x.undo());
        refused("undo() when all is undone", STATE, RefusedTest::undone, x -> (long) x.undo());
        refused("undo() behind back()", STATE, () -> {
            BehindOrgan x = busy();
            x.back(0);
            return x;
        }, x -> (long) x.undo());
        refused("undo() behind church()", STATE, () -> {
            BehindOrgan x = busy();
            read(x, "p6 5 2 1;");
            return x;
        }, x -> (long) x.undo());
    }

    private static void fullRefused() {
        for (int letter : new int[] {0, ' ', ';', 'w', '7', 255}) {
            refused("type(" + letter + ") of a full text", FULL, RefusedTest::busyWithFullText, x -> (long) x.type(letter));
        }
        for (int sides = 0; sides < 8; sides++) {
            int[] a = atBounds(boundsOf("hear"), sides);
            refused(shown("hear", a) + " when six were heard", FULL, RefusedTest::busyWithMuchHeard, x -> call(x, "hear", a));
        }
        refused("hear() of what was heard already", FULL, RefusedTest::busyWithMuchHeard, x -> (long) x.hear(20, 0, 1));
    }

    private static void theFirstOfThese() {
        refused("type(-1) of a full text", BAD, RefusedTest::busyWithFullText, x -> (long) x.type(-1));
        refused("type(256) of a full text", BAD, RefusedTest::busyWithFullText, x -> (long) x.type(256));
        int[][] bad = {{0, 0, 0}, {21, 0, 0}, {1, -1, 0}, {1, 3, 0}, {1, 0, -100}, {1, 0, 1000}};
        for (int[] a : bad) {
            refused(shown("hear", a) + " when six were heard", BAD, RefusedTest::busyWithMuchHeard, x -> call(x, "hear", a));
        }
        refused("back(2), none is kept", BAD, BehindOrgan::new, x -> (long) x.back(2));
        refused("back(-1), none is kept", BAD, BehindOrgan::new, x -> (long) x.back(-1));
    }

    private static void faults() {
        String[] texts = {"x", "w11;", "p1 2 3 4;w", "p0 0 0 0;".repeat(6) + "p0 0 0 0;", "w1;w1;", "l2;l2;", "g3;g3;", "l0;",
            "p61 0 0 0;", "w100;", "w01;", "p9 8 7 6;w1;l1;g1", "w1;l1;g1;p1 1 1 10;", "p9 8 7 6;p9 8 7 6;w9;;"};
        int[] places = {0, 1, 10, 54, 3, 3, 3, 1, 1, 1, 1, 17, 16, 21};
        for (int i = 0; i < texts.length; i++) {
            String text = texts[i];
            refused("church() of " + text, -10 - places[i], () -> {
                BehindOrgan x = busy();
                x.clear();
                type(x, text);
                return x;
            }, x -> (long) x.church());
        }
    }

    private static void askingChangesNothing() {
        for (String name : ASKING) {
            int which = boundsOf(name);
            for (int sides = 0; sides < 1 << BOUNDS[which].length / 2; sides++) {
                int[] a = atBounds(which, sides);
                unchanged(shown(name, a), RefusedTest::busy, x -> call(x, name, a));
            }
        }
        unchanged("rest()", RefusedTest::busy, x -> (long) x.rest());
        unchanged("waited()", RefusedTest::busy, x -> (long) x.waited());
        unchanged("trace()", RefusedTest::busy, BehindOrgan::trace);
    }
}
