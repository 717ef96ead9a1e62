import java.util.ArrayList;
import java.util.Arrays;
import java.util.List;

/**
 * Long runs of calls on the class and on a slow model, written a second time from the document:
 * lists that are copied, nothing that is used again.
 */
public final class ModelTest {
    private static final int BAD = -1000001, STATE = -1000002, FULL = -1000003, NONE = -1000009;
    private static final int RUNS = 1500, CALLS = 512;

    private static int wrong = 0;
    private static long seed = 1;

    private static int below(int n) {
        seed = seed * 6364136223846793005L + 1442695040888963407L;
        return (int) ((seed >>> 33) % n);
    }

    /** One pew and its lateness. */
    private static final class Pew {
        int yards, organ, neighbours, habit, late;
        boolean knows, choir;

        Pew copy() {
            Pew p = new Pew();
            p.yards = yards;
            p.organ = organ;
            p.neighbours = neighbours;
            p.habit = habit;
            p.late = late;
            p.knows = knows;
            p.choir = choir;
            return p;
        }
    }

    /** NOW, pews and all. */
    private static final class Time {
        List<Pew> pews = new ArrayList<>();
        int ahead, wait, pace, sung;

        Time copy() {
            Time t = new Time();
            for (Pew p : pews) {
                t.pews.add(p.copy());
            }
            t.ahead = ahead;
            t.wait = wait;
            t.pace = pace;
            t.sung = sung;
            return t;
        }

        Time line() {
            Time t = copy();
            for (int k = 0; k < pews.size(); k++) {
                t.pews.get(k).late = becomes(k);
            }
            if (!pews.isEmpty()) {
                int all = 0;
                for (Pew p : t.pews) {
                    all += p.late;
                }
                int by = wait * (all / pews.size()) / 10;
                if (by > 0) {
                    t.pace = Math.min(9999, pace + by);
                    for (Pew p : t.pews) {
                        p.late -= by;
                    }
                }
            }
            t.sung++;
            return t;
        }

        private int becomes(int k) {
            Pew p = pews.get(k);
            if (p.choir) {
                return 0;
            }
            List<Integer> beside = new ArrayList<>();
            if (k > 0) {
                beside.add(pews.get(k - 1).late + Math.abs(pews.get(k - 1).yards - p.yards) / 6);
            }
            if (k < pews.size() - 1) {
                beside.add(pews.get(k + 1).late + Math.abs(pews.get(k + 1).yards - p.yards) / 6);
            }
            int upper = p.organ * (p.yards / 6 - ahead) + 5 * p.late;
            int lower = p.organ + 5;
            if (!beside.isEmpty()) {
                upper += p.neighbours * (beside.stream().mapToInt(i -> i).sum() / beside.size());
                lower += p.neighbours;
            }
            int late = upper / lower + (p.knows ? 0 : p.habit);
            return late < -99 ? -99 : late > 999 ? 999 : late;
        }

        Time lines(int n) {
            return n == 0 ? this : line().lines(n - 1);
        }

        int apart() {
            return pews.isEmpty() ? 0 : pews.stream().mapToInt(p -> p.late).max().getAsInt()
                - pews.stream().mapToInt(p -> p.late).min().getAsInt();
        }

        int greatest() {
            return pews.stream().mapToInt(p -> Math.abs(p.late)).max().orElse(0);
        }

        int choir() {
            for (int k = 0; k < pews.size(); k++) {
                if (pews.get(k).choir) {
                    return k;
                }
            }
            return NONE;
        }

        void putChoir(int at) {
            for (int k = 0; k < pews.size(); k++) {
                pews.get(k).choir = k == at;
            }
        }

        String lates() {
            return Arrays.toString(pews.stream().mapToInt(p -> p.late).toArray());
        }
    }

    /** The whole object. */
    private static final class Model {
        String text = "";
        Time told = new Time(), now = new Time();
        int lines = 4, gap = 2;
        List<Time> undo = new ArrayList<>();
        List<int[]> heard = new ArrayList<>();
        Time[] images = new Time[2];
        long trace;

        boolean in(int x, int least, int most) {
            return least <= x && x <= most;
        }

        boolean pew(int k) {
            return in(k, 0, now.pews.size() - 1);
        }

        void known() {
            undo.add(now.copy());
            if (undo.size() > 10) {
                undo.remove(0);
            }
        }

        long call(int which, int[] a) {
            switch (which) {
                case 0: return type(a[0]);
                case 1: { int n = text.length(); text = ""; return n; }
                case 2: return church();
                case 3: return pew(a[0], a[1]);
                case 4: return now(a[0]);
                case 5: return line();
                case 6: return verse();
                case 7: return ahead(a[0]);
                case 8: return choir(a[0]);
                case 9: return knows(a[0], a[1]);
                case 10: return waits(a[0]);
                case 11: return undo();
                case 12: return behind(a[0], a[1]);
                case 13: return asleep(a[0]);
                case 14: return rest();
                case 15: return playAhead(a[0], a[1]);
                case 16: return seat(a[0], a[1]);
                case 17: return knowers(a[0], a[1]);
                case 18: return pulls(a[0]);
                case 19: return change(a[0]);
                case 20: return gaps(a[0]);
                case 21: return hear(a[0], a[1], a[2]);
                case 22: { int n = heard.size(); heard.clear(); return n; }
                case 23: return waited();
                case 24: return odds(a[0], a[1], a[2], a[3], a[4]);
                case 25: return rate(a[0], a[1]);
                case 26: return keep(a[0]);
                case 27: return back(a[0]);
                case 28: return count(a[0]);
                default: return trace;
            }
        }

        int type(int letter) {
            if (!in(letter, 0, 255)) {
                return BAD;
            }
            if (text.length() == 200) {
                return FULL;
            }
            text += (char) letter;
            return text.length();
        }

        /** Tokens first, each with its place; then what may stand where, as a row of letters. */
        int church() {
            Time t = new Time();
            int newLines = 4, newGap = 2, items = 0;
            String seen = "";
            List<String> tokens = new ArrayList<>();
            List<Integer> places = new ArrayList<>();
            for (int i = 0; i < text.length(); i++) {
                if (text.charAt(i) == ' ') {
                    continue;
                }
                int end = i + 1;
                while (Character.digit(text.charAt(i), 10) >= 0 && end < text.length()
                        && text.charAt(end) >= '0' && text.charAt(end) <= '9') {
                    end++;
                }
                tokens.add(text.substring(i, end));
                places.add(i);
                i = end - 1;
            }
            List<Integer> numbers = new ArrayList<>();
            String item = "";
            for (int i = 0; i < tokens.size(); i++) {
                String token = tokens.get(i);
                int fault = -10 - places.get(i);
                int due = item.equals("p") ? 4 : 1;
                if (item.isEmpty()) {
                    boolean again = token.equals("p") ? t.pews.size() == 6 : seen.contains(token);
                    if (!token.matches("[pwlg]") || again) {
                        return fault;
                    }
                    item = token;
                    seen += token;
                } else if (numbers.size() < due) {
                    int most = item.equals("w") ? 10 : item.equals("p") && numbers.isEmpty() ? 60 : 9;
                    int least = item.equals("l") ? 1 : 0;
                    if (!token.matches("0|[1-9][0-9]?") || !in(Integer.parseInt(token), least, most)) {
                        return fault;
                    }
                    numbers.add(Integer.parseInt(token));
                } else {
                    if (!token.equals(";")) {
                        return fault;
                    }
                    switch (item) {
                        case "w": t.wait = numbers.get(0); break;
                        case "l": newLines = numbers.get(0); break;
                        case "g": newGap = numbers.get(0); break;
                        default: {
                            Pew p = new Pew();
                            p.yards = numbers.get(0);
                            p.organ = numbers.get(1);
                            p.neighbours = numbers.get(2);
                            p.habit = numbers.get(3);
                            t.pews.add(p);
                        }
                    }
                    items++;
                    item = "";
                    numbers.clear();
                }
            }
            if (!item.isEmpty()) {
                return -10 - text.length();
            }
            told = t;
            now = t.copy();
            lines = newLines;
            gap = newGap;
            text = "";
            undo.clear();
            heard.clear();
            images = new Time[2];
            return items;
        }

        int pew(int k, int what) {
            if (!pew(k) || !in(what, 0, 6)) {
                return BAD;
            }
            Pew p = now.pews.get(k);
            return new int[] {p.yards, p.organ, p.neighbours, p.habit, p.late, p.yards / 6, p.knows ? 1 : 0}[what];
        }

        int now(int what) {
            return !in(what, 0, 6) ? BAD
                : new int[] {now.sung, now.pace, now.ahead, now.choir(), now.wait, now.apart(), undo.size()}[what];
        }

        int line() {
            if (now.sung == 999) {
                return STATE;
            }
            known();
            now = now.line();
            return now.pace;
        }

        int verse() {
            if (now.sung + lines > 999) {
                return STATE;
            }
            known();
            now = now.lines(lines).copy();
            for (Pew p : now.pews) {
                p.late /= gap + 1;
            }
            return now.pace;
        }

        int ahead(int a) {
            if (!in(a, 0, 20)) {
                return BAD;
            }
            known();
            int was = now.ahead;
            now.ahead = a;
            return was;
        }

        int choir(int k) {
            if (k != NONE && !pew(k)) {
                return BAD;
            }
            known();
            int was = now.choir();
            now.putChoir(k);
            return was;
        }

        int knows(int k, int is) {
            if (!pew(k) || !in(is, 0, 1)) {
                return BAD;
            }
            known();
            now.pews.get(k).knows = is == 1;
            return (int) now.pews.stream().filter(p -> p.knows).count();
        }

        int waits(int w) {
            if (!in(w, 0, 10)) {
                return BAD;
            }
            known();
            int was = now.wait;
            now.wait = w;
            return was;
        }

        int undo() {
            if (undo.isEmpty()) {
                return STATE;
            }
            now = undo.remove(undo.size() - 1);
            return undo.size();
        }

        int behind(int n, int k) {
            if (!in(n, 0, 60) || !pew(k) && k != -1 && k != -2) {
                return BAD;
            }
            Time t = now.lines(n);
            return k == -1 ? t.pace : k == -2 ? t.apart() : t.pews.get(k).late;
        }

        int asleep(int p) {
            if (!in(p, 1, 9999)) {
                return BAD;
            }
            for (int n = 0; n <= 60; n++) {
                if (now.lines(n).pace >= p) {
                    return n;
                }
            }
            return NONE;
        }

        int rest() {
            for (int n = 0; n <= 60; n++) {
                if (now.lines(n).lates().equals(now.lines(n + 1).lates())) {
                    return n;
                }
            }
            return NONE;
        }

        int playAhead(int n, int what) {
            if (!in(n, 1, 30) || !in(what, 0, 1)) {
                return BAD;
            }
            int[] best = {99, 99999};
            for (int a = 20; a >= 0; a--) {
                Time t = now.copy();
                t.ahead = a;
                int greatest = t.lines(n).greatest();
                if (greatest <= best[1]) {
                    best = new int[] {a, greatest};
                }
            }
            return best[what];
        }

        int seat(int n, int what) {
            if (!in(n, 1, 30) || !in(what, 0, 1)) {
                return BAD;
            }
            Time none = now.copy();
            none.putChoir(NONE);
            int[] best = {NONE, none.lines(n).apart()};
            for (int k = now.pews.size() - 1; k >= 0; k--) {
                Time t = now.copy();
                t.putChoir(k);
                int apart = t.lines(n).apart();
                if (apart <= best[1]) {
                    best = new int[] {k, apart};
                }
            }
            return best[what];
        }

        int knowers(int n, int d) {
            if (!in(n, 1, 30) || !in(d, 0, 99)) {
                return BAD;
            }
            int best = NONE;
            for (int bits = 0; bits < 1 << now.pews.size(); bits++) {
                Time t = now.copy();
                boolean more = true;
                for (int k = 0; k < t.pews.size(); k++) {
                    if ((bits & 1 << k) != 0) {
                        more &= !t.pews.get(k).knows;
                        t.pews.get(k).knows = true;
                    }
                }
                boolean fewer = best == NONE || Integer.bitCount(bits) < Integer.bitCount(best);
                if (more && fewer && t.lines(n).apart() <= d) {
                    best = bits;
                }
            }
            return best;
        }

        int pulls(int n) {
            if (!in(n, 1, 30)) {
                return BAD;
            }
            int best = NONE, least = now.lines(n).pace;
            for (int k = 0; k < now.pews.size(); k++) {
                Time t = now.copy();
                t.pews.remove(k);
                int pace = t.lines(n).pace;
                if (pace < least) {
                    best = k;
                    least = pace;
                }
            }
            return best;
        }

        int change(int n) {
            if (!in(n, 1, 30)) {
                return BAD;
            }
            int best = NONE, least = now.lines(n).apart();
            for (int pair = 1; pair < 60; pair++) {
                int i = pair / 10, j = pair % 10;
                if (i >= j || j >= now.pews.size()) {
                    continue;
                }
                Time t = now.copy();
                t.pews.get(i).yards = now.pews.get(j).yards;
                t.pews.get(j).yards = now.pews.get(i).yards;
                int apart = t.lines(n).apart();
                if (apart < least) {
                    best = pair;
                    least = apart;
                }
            }
            return best;
        }

        int gaps(int d) {
            if (!in(d, 0, 99)) {
                return BAD;
            }
            for (int g = 0; g < 10; g++) {
                int by = g + 1;
                if (now.lines(lines).pews.stream().allMatch(p -> Math.abs(p.late / by) <= d)) {
                    return g;
                }
            }
            return NONE;
        }

        int hear(int i, int k, int v) {
            if (!in(i, 1, 20) || !pew(k) || !in(v, -99, 999)) {
                return BAD;
            }
            if (heard.size() == 6) {
                return FULL;
            }
            heard.add(new int[] {i, k, v});
            return heard.size();
        }

        int waited() {
            int bits = 0;
            for (int w = 0; w <= 10; w++) {
                Time t = told.copy();
                t.wait = w;
                if (heard.stream().allMatch(h -> t.lines(h[0]).pews.get(h[1]).late == h[2])) {
                    bits += 1 << w;
                }
            }
            return bits;
        }

        long odds(int a, int p, int n, int d, int what) {
            if (!in(a, 0, 20) || !in(p, 0, 10) || !in(n, 0, 6) || !in(d, 0, 99) || !in(what, 0, 1)) {
                return BAD;
            }
            long upper = chances(now, a, p, n, d), lower = Math.round(Math.pow(10, n));
            for (int by : new int[] {2, 5}) {
                while (upper % by == 0 && lower % by == 0) {
                    upper /= by;
                    lower /= by;
                }
            }
            return what == 0 ? upper : lower;
        }

        private long chances(Time t, int a, int p, int n, int d) {
            if (n == 0) {
                return t.apart() <= d ? 1 : 0;
            }
            Time plays = t.copy(), forgets = t.copy();
            plays.ahead = a;
            forgets.ahead = 0;
            return p * chances(plays.line(), a, p, n - 1, d) + (10 - p) * chances(forgets.line(), a, p, n - 1, d);
        }

        int rate(int kind, int k) {
            if (!in(kind, 0, 5) || !pew(k)) {
                return BAD;
            }
            Pew p = now.pews.get(k);
            trace += new int[] {1, 11, 101, 1011, 10101, 100001}[kind];
            int front = p.late + p.yards / 6, basses = p.late - p.habit;
            return new int[] {p.late, front, basses, 2 * front, basses + k, p.late + now.pace}[kind];
        }

        int keep(int image) {
            if (!in(image, 0, 1)) {
                return BAD;
            }
            images[image] = now.copy();
            return now.sung;
        }

        int back(int image) {
            if (!in(image, 0, 1)) {
                return BAD;
            }
            if (images[image] == null) {
                return STATE;
            }
            now = images[image].copy();
            undo.clear();
            return now.sung;
        }

        int count(int what) {
            return !in(what, 0, 4) ? BAD
                : new int[] {now.pews.size(), lines, gap, heard.size(), text.length()}[what];
        }
    }

    private static final String[] NAMES = {"type", "clear", "church", "pew", "now", "line", "verse", "ahead", "choir",
        "knows", "waits", "undo", "behind", "asleep", "rest", "playAhead", "seat", "knowers", "pulls", "change", "gaps",
        "hear", "forget", "waited", "odds", "rate", "keep", "back", "count", "trace"};

    /** Most of each number as told, or as is worth asking; arguments go a little beyond on both sides. */
    private static final int[][] MOST = {{255}, {}, {}, {5, 6}, {6}, {}, {}, {20}, {5}, {5, 1}, {10}, {}, {60, 5}, {200},
        {}, {30, 1}, {30, 1}, {30, 25}, {30}, {30}, {99}, {20, 5, 40}, {}, {}, {20, 10, 6, 40, 1}, {5, 5}, {1}, {1},
        {4}, {}};

    private static long call(BehindOrgan x, int which, int[] a) {
        switch (which) {
            case 0: return x.type(a[0]);
            case 1: return x.clear();
            case 2: return x.church();
            case 3: return x.pew(a[0], a[1]);
            case 4: return x.now(a[0]);
            case 5: return x.line();
            case 6: return x.verse();
            case 7: return x.ahead(a[0]);
            case 8: return x.choir(a[0]);
            case 9: return x.knows(a[0], a[1]);
            case 10: return x.waits(a[0]);
            case 11: return x.undo();
            case 12: return x.behind(a[0], a[1]);
            case 13: return x.asleep(a[0]);
            case 14: return x.rest();
            case 15: return x.playAhead(a[0], a[1]);
            case 16: return x.seat(a[0], a[1]);
            case 17: return x.knowers(a[0], a[1]);
            case 18: return x.pulls(a[0]);
            case 19: return x.change(a[0]);
            case 20: return x.gaps(a[0]);
            case 21: return x.hear(a[0], a[1], a[2]);
            case 22: return x.forget();
            case 23: return x.waited();
            case 24: return x.odds(a[0], a[1], a[2], a[3], a[4]);
            case 25: return x.rate(a[0], a[1]);
            case 26: return x.keep(a[0]);
            case 27: return x.back(a[0]);
            case 28: return x.count(a[0]);
            default: return x.trace();
        }
    }

    private static int[] arguments(int which) {
        int[] a = new int[MOST[which].length];
        for (int i = 0; i < a.length; i++) {
            a[i] = below(MOST[which][i] + 1);
            int odd = below(60);
            if (odd < 6) {
                a[i] = new int[] {-1, -2, MOST[which][i] + 1, NONE, Integer.MAX_VALUE, Integer.MIN_VALUE}[odd];
            }
        }
        return a;
    }

    private static String someChurch() {
        StringBuilder s = new StringBuilder();
        int pews = below(7);
        for (int k = 0; k < pews; k++) {
            s.append("p").append(below(61)).append(" ").append(below(10)).append(" ").append(below(10));
            s.append(" ").append(below(3) == 0 ? below(10) : 0).append(below(2) == 0 ? " ;" : ";");
        }
        s.append(below(3) > 0 ? "w" + below(11) + ";" : "").append(below(2) == 0 ? "l " + (1 + below(9)) + ";" : "");
        s.append(below(2) == 0 ? " g" + below(10) + "; " : "");
        if (below(4) == 0 && s.length() > 0) {
            int at = below(s.length());
            char[] odd = "pwlg;0 19x".toCharArray();
            s.setCharAt(at, odd[below(odd.length)]);
        }
        if (below(12) == 0) {
            s.setLength(below(s.length() + 1));
        }
        return s.toString();
    }

    private static boolean isSame(int run, BehindOrgan x, Model m, int which, int[] a) {
        long want = m.call(which, a);
        String got;
        try {
            got = String.valueOf(call(x, which, a));
        } catch (RuntimeException e) {
            got = e.toString();
        }
        if (got.equals(String.valueOf(want))) {
            return true;
        }
        wrong++;
        System.out.println("run " + run + ": " + NAMES[which] + Arrays.toString(a) + " answered " + got + ", due is " + want);
        return false;
    }

    private static void run(int run) {
        BehindOrgan x = new BehindOrgan();
        Model m = new Model();
        int calls = 0;
        int busy = 1 + below(12);
        while (calls < CALLS) {
            if (calls == 0 || below(150) == 0 && calls < 400) {
                String text = someChurch();
                for (int i = 0; i < text.length(); i++) {
                    isSame(run, x, m, 0, new int[] {text.charAt(i)});
                }
                calls += text.length() + 1;
                isSame(run, x, m, 2, new int[0]);
                if (m.text.length() > 0) {
                    isSame(run, x, m, 1, new int[0]);
                }
            }
            int which = below(busy) > 1 ? 5 + below(8) : below(30);
            if (which < 3 && below(4) > 0 || which == 13 && below(4) > 0) {
                which = 25;
            }
            if (!isSame(run, x, m, which, arguments(which)) || !isSameAllOver(run, x, m)) {
                return;
            }
            calls++;
        }
    }

    private static boolean isSameAllOver(int run, BehindOrgan x, Model m) {
        boolean same = true;
        for (int i = 0; i < 7; i++) {
            same &= isSame(run, x, m, 4, new int[] {i});
        }
        for (int i = 0; i < 5; i++) {
            same &= isSame(run, x, m, 28, new int[] {i});
        }
        for (int k = 0; k < m.now.pews.size(); k++) {
            same &= isSame(run, x, m, 3, new int[] {k, 4}) && isSame(run, x, m, 3, new int[] {k, 6});
            same &= isSame(run, x, m, 3, new int[] {k, 0});
        }
        return same && isSame(run, x, m, 29, new int[0]);
    }

    public static void main(String[] args) {
        for (int run = 1; run <= RUNS && wrong < 20; run++) {
            run(run);
        }
        System.out.println(wrong == 0 ? "all answers are as the model's" : wrong + " answers are not as the model's");
        if (wrong != 0) {
            System.exit(1);
        }
    }
}
