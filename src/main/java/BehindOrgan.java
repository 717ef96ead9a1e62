/**
 * A congregation that sings behind its organ: pews told by a text, lines and verses sung,
 * what will come of it, what would be best, what was heard, and what can be taken back.
 */
public final class BehindOrgan {
    public static final int BAD = -1000001, STATE = -1000002, FULL = -1000003, NONE = -1000009;

    private static final int MOST_PEWS = 6;
    private static final int MOST_LETTERS = 200;
    private static final int MOST_YARDS = 60;
    private static final int MOST_SHARE = 9;
    private static final int MOST_WAIT = 10;
    private static final int MOST_LINES = 9;
    private static final int MOST_GAP = 9;
    private static final int MOST_AHEAD = 20;
    private static final int MOST_SUNG = 999;
    private static final int MOST_PACE = 9999;
    private static final int LEAST_LATE = -99;
    private static final int MOST_LATE = 999;
    private static final int OWN_SHARE = 5;
    private static final int YARDS_A_TICK = 6;
    private static final int MOST_UNDONE = 10;
    private static final int MOST_HEARD = 6;
    private static final int LAST_HEARD_LINE = 20;
    private static final int MOST_FORESEEN = 60;
    private static final int MOST_PLANNED = 30;
    private static final int MOST_CHANCES = 6;
    private static final int MOST_APART = 99;
    private static final int TENTHS = 10;
    private static final int IMAGES = 2;
    /** More than any LATE, and than any two are apart. */
    private static final int BEYOND_ALL = 1000000;

    private final Reader reader = new Reader();
    private final Church told = new Church();
    /** A church that is being read, or one that differs from the told one in what is asked. */
    private final Church other = new Church();
    private final Singing current = new Singing();
    private final Singing trial = new Singing();
    private final Singing earlier = new Singing();
    private final History history = new History();
    private final Singing[] images = {new Singing(), new Singing()};
    private final boolean[] imageKept = new boolean[IMAGES];
    private final int[] heardLine = new int[MOST_HEARD];
    private final int[] heardPew = new int[MOST_HEARD];
    private final int[] heardLate = new int[MOST_HEARD];
    private int heard;
    private long traced;

    public BehindOrgan() {
    }

    // ---- the church

    public int type(int letter) {
        if (!within(letter, 0, 255)) {
            return BAD;
        }
        return reader.add(letter) ? reader.length : FULL;
    }

    public int clear() {
        return reader.empty();
    }

    public int church() {
        int items = reader.readInto(other);
        if (items >= 0) {
            told.copyFrom(other);
            reader.empty();
            beginAnew();
        }
        return items;
    }

    private void beginAnew() {
        current.begin(told.wait);
        history.known = 0;
        heard = 0;
        for (int i = 0; i < IMAGES; i++) {
            imageKept[i] = false;
        }
    }

    public int pew(int k, int what) {
        if (!told.has(k)) {
            return BAD;
        }
        switch (what) {
            case 0: return told.yards[k];
            case 1: return told.organ[k];
            case 2: return told.neighbours[k];
            case 3: return told.habit[k];
            case 4: return current.late[k];
            case 5: return told.lag(k);
            case 6: return current.isKnower(k) ? 1 : 0;
            default: return BAD;
        }
    }

    public int now(int what) {
        switch (what) {
            case 0: return current.sung;
            case 1: return current.pace;
            case 2: return current.playsAhead;
            case 3: return current.choirAt;
            case 4: return current.waiting;
            case 5: return current.apart(told.pews);
            case 6: return history.known;
            default: return BAD;
        }
    }

    // ---- what is done

    public int line() {
        if (current.sung >= MOST_SUNG) {
            return STATE;
        }
        history.remember(current);
        told.singLine(current);
        return current.pace;
    }

    public int verse() {
        if (current.sung + told.lines > MOST_SUNG) {
            return STATE;
        }
        history.remember(current);
        told.singLines(current, told.lines);
        for (int k = 0; k < told.pews; k++) {
            current.late[k] = divided(current.late[k], told.gap + 1);
        }
        return current.pace;
    }

    public int ahead(int a) {
        if (!within(a, 0, MOST_AHEAD)) {
            return BAD;
        }
        history.remember(current);
        int was = current.playsAhead;
        current.playsAhead = a;
        return was;
    }

    public int choir(int k) {
        if (k != NONE && !told.has(k)) {
            return BAD;
        }
        history.remember(current);
        int was = current.choirAt;
        current.choirAt = k;
        return was;
    }

    public int knows(int k, int is) {
        if (!told.has(k) || !within(is, 0, 1)) {
            return BAD;
        }
        history.remember(current);
        int bit = 1 << k;
        current.knowing = is == 1 ? current.knowing | bit : current.knowing & ~bit;
        return Integer.bitCount(current.knowing);
    }

    public int waits(int w) {
        if (!within(w, 0, MOST_WAIT)) {
            return BAD;
        }
        history.remember(current);
        int was = current.waiting;
        current.waiting = w;
        return was;
    }

    public int undo() {
        if (history.known == 0) {
            return STATE;
        }
        history.takeBack(current);
        return history.known;
    }

    // ---- what comes

    public int behind(int n, int k) {
        if (!within(n, 0, MOST_FORESEEN) || !(within(k, -2, -1) || told.has(k))) {
            return BAD;
        }
        trial.copyFrom(current);
        told.singLines(trial, n);
        if (k == -1) {
            return trial.pace;
        }
        return k == -2 ? trial.apart(told.pews) : trial.late[k];
    }

    public int asleep(int p) {
        if (!within(p, 1, MOST_PACE)) {
            return BAD;
        }
        trial.copyFrom(current);
        for (int n = 0; n <= MOST_FORESEEN; n++) {
            if (trial.pace >= p) {
                return n;
            }
            told.singLine(trial);
        }
        return NONE;
    }

    public int rest() {
        trial.copyFrom(current);
        for (int n = 0; n <= MOST_FORESEEN; n++) {
            earlier.copyFrom(trial);
            told.singLine(trial);
            if (trial.isAsLateAs(earlier, told.pews)) {
                return n;
            }
        }
        return NONE;
    }

    // ---- what is best

    public int playAhead(int n, int what) {
        if (!within(n, 1, MOST_PLANNED) || !within(what, 0, 1)) {
            return BAD;
        }
        int best = 0;
        int least = BEYOND_ALL;
        for (int a = 0; a <= MOST_AHEAD; a++) {
            trial.copyFrom(current);
            trial.playsAhead = a;
            told.singLines(trial, n);
            int greatest = trial.greatest(told.pews);
            if (greatest < least) {
                least = greatest;
                best = a;
            }
        }
        return what == 0 ? best : least;
    }

    public int seat(int n, int what) {
        if (!within(n, 1, MOST_PLANNED) || !within(what, 0, 1)) {
            return BAD;
        }
        int best = NONE;
        int least = BEYOND_ALL;
        for (int k = 0; k < told.pews; k++) {
            int apart = apartBySeat(n, k);
            if (apart < least) {
                least = apart;
                best = k;
            }
        }
        int apart = apartBySeat(n, NONE);
        if (apart < least) {
            least = apart;
            best = NONE;
        }
        return what == 0 ? best : least;
    }

    private int apartBySeat(int n, int k) {
        trial.copyFrom(current);
        trial.choirAt = k;
        told.singLines(trial, n);
        return trial.apart(told.pews);
    }

    public int knowers(int n, int d) {
        if (!within(n, 1, MOST_PLANNED) || !within(d, 0, MOST_APART)) {
            return BAD;
        }
        for (int size = 0; size <= told.pews; size++) {
            int bits = knowersOfSize(size, n, d);
            if (bits != NONE) {
                return bits;
            }
        }
        return NONE;
    }

    private int knowersOfSize(int size, int n, int d) {
        int end = 1 << told.pews;
        for (int bits = 0; bits < end; bits++) {
            if (Integer.bitCount(bits) != size || (bits & current.knowing) != 0) {
                continue;
            }
            trial.copyFrom(current);
            trial.knowing |= bits;
            told.singLines(trial, n);
            if (trial.apart(told.pews) <= d) {
                return bits;
            }
        }
        return NONE;
    }

    public int pulls(int n) {
        if (!within(n, 1, MOST_PLANNED)) {
            return BAD;
        }
        trial.copyFrom(current);
        told.singLines(trial, n);
        int least = trial.pace;
        int best = NONE;
        for (int k = 0; k < told.pews; k++) {
            int pace = paceWithout(k, n);
            if (pace < least) {
                least = pace;
                best = k;
            }
        }
        return best;
    }

    private int paceWithout(int k, int n) {
        other.copyFrom(told);
        other.leaveOut(k);
        trial.copyFrom(current);
        trial.leaveOut(k);
        other.singLines(trial, n);
        return trial.pace;
    }

    public int change(int n) {
        if (!within(n, 1, MOST_PLANNED)) {
            return BAD;
        }
        trial.copyFrom(current);
        told.singLines(trial, n);
        int least = trial.apart(told.pews);
        int best = NONE;
        for (int i = 0; i < told.pews; i++) {
            for (int j = i + 1; j < told.pews; j++) {
                int apart = apartByChange(i, j, n);
                if (apart < least) {
                    least = apart;
                    best = 10 * i + j;
                }
            }
        }
        return best;
    }

    private int apartByChange(int i, int j, int n) {
        other.copyFrom(told);
        other.yards[i] = told.yards[j];
        other.yards[j] = told.yards[i];
        trial.copyFrom(current);
        other.singLines(trial, n);
        return trial.apart(told.pews);
    }

    public int gaps(int d) {
        if (!within(d, 0, MOST_APART)) {
            return BAD;
        }
        trial.copyFrom(current);
        told.singLines(trial, told.lines);
        int greatest = trial.greatest(told.pews);
        for (int gap = 0; gap <= MOST_GAP; gap++) {
            if (divided(greatest, gap + 1) <= d) {
                return gap;
            }
        }
        return NONE;
    }

    // ---- what was heard, by chance

    public int hear(int i, int k, int v) {
        if (!within(i, 1, LAST_HEARD_LINE) || !told.has(k) || !within(v, LEAST_LATE, MOST_LATE)) {
            return BAD;
        }
        if (heard >= MOST_HEARD) {
            return FULL;
        }
        heardLine[heard] = i;
        heardPew[heard] = k;
        heardLate[heard] = v;
        heard++;
        return heard;
    }

    public int forget() {
        int was = heard;
        heard = 0;
        return was;
    }

    public int waited() {
        int bits = 0;
        for (int w = 0; w <= MOST_WAIT; w++) {
            if (isAllHeardSo(w)) {
                bits |= 1 << w;
            }
        }
        return bits;
    }

    private boolean isAllHeardSo(int wait) {
        trial.begin(wait);
        for (int i = 1; i <= LAST_HEARD_LINE; i++) {
            told.singLine(trial);
            for (int h = 0; h < heard; h++) {
                if (heardLine[h] == i && trial.late[heardPew[h]] != heardLate[h]) {
                    return false;
                }
            }
        }
        return true;
    }

    public long odds(int a, int p, int n, int d, int what) {
        boolean isTold = within(a, 0, MOST_AHEAD) && within(p, 0, TENTHS) && within(n, 0, MOST_CHANCES)
                && within(d, 0, MOST_APART) && within(what, 0, 1);
        if (!isTold) {
            return BAD;
        }
        long upper = 0;
        for (int plays = 0; plays < 1 << n; plays++) {
            if (apartByPlays(a, n, plays) <= d) {
                int often = Integer.bitCount(plays);
                upper += power(p, often) * power(TENTHS - p, n - often);
            }
        }
        long lower = power(TENTHS, n);
        long common = commonDivisor(lower, upper);
        if (common == 0) {
            return BAD;
        }
        return (what == 0 ? upper : lower) / common;
    }

    /** Bit i of plays: whether he remembers to play ahead in line i. */
    private int apartByPlays(int a, int n, int plays) {
        trial.copyFrom(current);
        for (int i = 0; i < n; i++) {
            trial.playsAhead = (plays >> i & 1) == 1 ? a : 0;
            told.singLine(trial);
        }
        return trial.apart(told.pews);
    }

    // ---- kinds, images

    public int rate(int kind, int k) {
        if (!within(kind, 0, 5) || !told.has(k)) {
            return BAD;
        }
        switch (kind) {
            case 1: return rateFront(k);
            case 2: return rateBasses(k);
            case 3: return rateWidows(k);
            case 4: return rateBoys(k);
            case 5: return rateStrangers(k);
            default: return ratePew(k);
        }
    }

    private int ratePew(int k) {
        traced += 1;
        return current.late[k];
    }

    private int rateFront(int k) {
        traced += 10;
        return ratePew(k) + told.lag(k);
    }

    /** Habit as told, of a pew that knows the hymn too: so the runs under shared/tests have it. */
    private int rateBasses(int k) {
        traced += 100;
        return ratePew(k) - told.habit[k];
    }

    private int rateWidows(int k) {
        traced += 1000;
        return 2 * rateFront(k);
    }

    private int rateBoys(int k) {
        traced += 10000;
        return rateBasses(k) + k;
    }

    private int rateStrangers(int k) {
        traced += 100000;
        return ratePew(k) + current.pace;
    }

    public int keep(int image) {
        if (!within(image, 0, IMAGES - 1)) {
            return BAD;
        }
        images[image].copyFrom(current);
        imageKept[image] = true;
        return current.sung;
    }

    public int back(int image) {
        if (!within(image, 0, IMAGES - 1)) {
            return BAD;
        }
        if (!imageKept[image]) {
            return STATE;
        }
        current.copyFrom(images[image]);
        history.known = 0;
        return current.sung;
    }

    public int count(int what) {
        switch (what) {
            case 0: return told.pews;
            case 1: return told.lines;
            case 2: return told.gap;
            case 3: return heard;
            case 4: return reader.length;
            default: return BAD;
        }
    }

    public long trace() {
        return traced;
    }

    // ---- numbers

    private static boolean within(int x, int least, int most) {
        return x >= least && x <= most;
    }

    /** Cut towards 0; of nothing (no pews, no neighbours) the mean is 0. */
    private static int divided(int x, int by) {
        return by == 0 ? 0 : x / by;
    }

    private static long power(int base, int times) {
        long product = 1;
        for (int i = 0; i < times; i++) {
            product *= base;
        }
        return product;
    }

    private static long commonDivisor(long a, long b) {
        // 64 steps are more than two numbers up to a million can need.
        for (int step = 0; step < 64 && b != 0; step++) {
            long left = a % b;
            a = b;
            b = left;
        }
        return a;
    }

    /** The pews and numbers as the text tells them, and how a line is sung in them. */
    private static final class Church {
        final int[] yards = new int[MOST_PEWS];
        final int[] organ = new int[MOST_PEWS];
        final int[] neighbours = new int[MOST_PEWS];
        final int[] habit = new int[MOST_PEWS];
        int pews;
        int wait;
        int lines;
        int gap;
        /** How late the pews were ahead of the line that is being sung. */
        private final int[] was = new int[MOST_PEWS];

        Church() {
            empty();
        }

        void empty() {
            pews = 0;
            wait = 0;
            lines = 4;
            gap = 2;
        }

        boolean has(int k) {
            return k >= 0 && k < pews;
        }

        int lag(int k) {
            return yards[k] / YARDS_A_TICK;
        }

        private int between(int i, int j) {
            return Math.abs(yards[i] - yards[j]) / YARDS_A_TICK;
        }

        void copyFrom(Church from) {
            pews = from.pews;
            wait = from.wait;
            lines = from.lines;
            gap = from.gap;
            for (int k = 0; k < MOST_PEWS; k++) {
                copyPew(k, from, k);
            }
        }

        private void copyPew(int k, Church from, int fromK) {
            yards[k] = from.yards[fromK];
            organ[k] = from.organ[fromK];
            neighbours[k] = from.neighbours[fromK];
            habit[k] = from.habit[fromK];
        }

        void leaveOut(int k) {
            if (!has(k)) {
                return;
            }
            for (int i = k; i + 1 < pews; i++) {
                copyPew(i, this, i + 1);
            }
            pews--;
        }

        void singLines(Singing s, int n) {
            for (int i = 0; i < n; i++) {
                singLine(s);
            }
        }

        void singLine(Singing s) {
            for (int k = 0; k < pews; k++) {
                was[k] = s.late[k];
            }
            for (int k = 0; k < pews; k++) {
                s.late[k] = s.choirAt == k ? 0 : lateBehindLine(k, s);
            }
            waitFor(s);
            s.sung = Math.min(MOST_SUNG, s.sung + 1);
        }

        private int lateBehindLine(int k, Singing s) {
            int share = pews == 1 ? 0 : neighbours[k];
            int sum = organ[k] * (lag(k) - s.playsAhead) + share * meanBeside(k) + OWN_SHARE * was[k];
            int late = divided(sum, organ[k] + share + OWN_SHARE) + (s.isKnower(k) ? 0 : habit[k]);
            return Math.max(LEAST_LATE, Math.min(MOST_LATE, late));
        }

        private int meanBeside(int k) {
            int sum = 0;
            int beside = 0;
            for (int j = k - 1; j <= k + 1; j += 2) {
                if (has(j)) {
                    sum += was[j] + between(j, k);
                    beside++;
                }
            }
            return divided(sum, beside);
        }

        private void waitFor(Singing s) {
            int sum = 0;
            for (int k = 0; k < pews; k++) {
                sum += s.late[k];
            }
            int ticks = s.waiting * divided(sum, pews) / TENTHS;
            if (ticks <= 0) {
                return;
            }
            s.pace = Math.min(MOST_PACE, s.pace + ticks);
            for (int k = 0; k < pews; k++) {
                s.late[k] -= ticks;
            }
        }
    }

    /** All that changes while they sing: what images keep and what can be undone. */
    private static final class Singing {
        final int[] late = new int[MOST_PEWS];
        int playsAhead;
        int choirAt = NONE;
        /** Bits of the pews that know the hymn. */
        int knowing;
        int waiting;
        int pace;
        int sung;

        void begin(int wait) {
            for (int k = 0; k < MOST_PEWS; k++) {
                late[k] = 0;
            }
            playsAhead = 0;
            choirAt = NONE;
            knowing = 0;
            waiting = wait;
            pace = 0;
            sung = 0;
        }

        void copyFrom(Singing from) {
            for (int k = 0; k < MOST_PEWS; k++) {
                late[k] = from.late[k];
            }
            playsAhead = from.playsAhead;
            choirAt = from.choirAt;
            knowing = from.knowing;
            waiting = from.waiting;
            pace = from.pace;
            sung = from.sung;
        }

        boolean isKnower(int k) {
            return (knowing >> k & 1) == 1;
        }

        int apart(int pews) {
            if (pews == 0) {
                return 0;
            }
            int greatest = late[0];
            int least = late[0];
            for (int k = 1; k < pews; k++) {
                greatest = Math.max(greatest, late[k]);
                least = Math.min(least, late[k]);
            }
            return greatest - least;
        }

        /** Without sign. */
        int greatest(int pews) {
            int greatest = 0;
            for (int k = 0; k < pews; k++) {
                greatest = Math.max(greatest, Math.abs(late[k]));
            }
            return greatest;
        }

        boolean isAsLateAs(Singing s, int pews) {
            for (int k = 0; k < pews; k++) {
                if (late[k] != s.late[k]) {
                    return false;
                }
            }
            return true;
        }

        /** A choir that stood in the pew left out is nowhere then. */
        void leaveOut(int k) {
            if (!within(k, 0, MOST_PEWS - 1)) {
                return;
            }
            for (int i = k; i + 1 < MOST_PEWS; i++) {
                late[i] = late[i + 1];
            }
            int below = (1 << k) - 1;
            knowing = knowing & below | knowing >> 1 & ~below;
            if (choirAt == k) {
                choirAt = NONE;
            } else if (choirAt > k) {
                choirAt--;
            }
        }
    }

    /** The latest states that can come back; the oldest is written over when there is no room. */
    private static final class History {
        private final Singing[] states = new Singing[MOST_UNDONE];
        private int next;
        int known;

        History() {
            for (int i = 0; i < MOST_UNDONE; i++) {
                states[i] = new Singing();
            }
        }

        void remember(Singing s) {
            states[next].copyFrom(s);
            next = (next + 1) % MOST_UNDONE;
            known = Math.min(MOST_UNDONE, known + 1);
        }

        void takeBack(Singing s) {
            next = (next + MOST_UNDONE - 1) % MOST_UNDONE;
            s.copyFrom(states[next]);
            known--;
        }
    }

    /** The text, and how it is read into a church. */
    private static final class Reader {
        private static final int END = -1;
        private static final int NUMBER = -2;
        private static final int WRONG = -3;
        private static final int NO_FAULT = -10;

        private final int[] letters = new int[MOST_LETTERS];
        int length;
        /** The token that was read last: a letter or one of the above; its first letter's place. */
        private int token;
        private int place;
        private int number;
        private int next;
        private boolean waitTold;
        private boolean linesTold;
        private boolean gapTold;

        boolean add(int letter) {
            if (length >= MOST_LETTERS) {
                return false;
            }
            letters[length] = letter;
            length++;
            return true;
        }

        int empty() {
            int was = length;
            length = 0;
            return was;
        }

        /** How many items there are, or -10 less the fault's place. */
        int readInto(Church c) {
            c.empty();
            next = 0;
            waitTold = false;
            linesTold = false;
            gapTold = false;
            for (int items = 0; items <= MOST_LETTERS; items++) {
                readToken();
                if (token == END) {
                    return items;
                }
                if (!readItem(c)) {
                    break;
                }
            }
            return NO_FAULT - place;
        }

        private boolean readItem(Church c) {
            switch (token) {
                case 'p': return c.pews < MOST_PEWS && readPew(c) && readItemEnd();
                case 'w': return !waitTold && readWait(c) && readItemEnd();
                case 'l': return !linesTold && readLines(c) && readItemEnd();
                case 'g': return !gapTold && readGap(c) && readItemEnd();
                default: return false;
            }
        }

        private boolean readPew(Church c) {
            int k = c.pews;
            if (!readNumber(0, MOST_YARDS)) {
                return false;
            }
            c.yards[k] = number;
            if (!readNumber(0, MOST_SHARE)) {
                return false;
            }
            c.organ[k] = number;
            if (!readNumber(0, MOST_SHARE)) {
                return false;
            }
            c.neighbours[k] = number;
            if (!readNumber(0, MOST_SHARE)) {
                return false;
            }
            c.habit[k] = number;
            c.pews++;
            return true;
        }

        private boolean readWait(Church c) {
            waitTold = readNumber(0, MOST_WAIT);
            c.wait = number;
            return waitTold;
        }

        private boolean readLines(Church c) {
            linesTold = readNumber(1, MOST_LINES);
            c.lines = number;
            return linesTold;
        }

        private boolean readGap(Church c) {
            gapTold = readNumber(0, MOST_GAP);
            c.gap = number;
            return gapTold;
        }

        private boolean readNumber(int least, int most) {
            readToken();
            return token == NUMBER && within(number, least, most);
        }

        private boolean readItemEnd() {
            readToken();
            return token == ';';
        }

        private void readToken() {
            while (next < length && letters[next] == ' ') {
                next++;
            }
            place = next;
            if (next >= length) {
                token = END;
            } else if (isDigit(letters[next])) {
                readDigits();
            } else {
                token = letters[next];
                next++;
            }
        }

        private void readDigits() {
            number = 0;
            while (next < length && isDigit(letters[next])) {
                number = 10 * number + letters[next] - '0';
                next++;
            }
            // By its digits, not its value: a long one wraps around.
            int digits = next - place;
            boolean isWrong = digits > 2 || digits > 1 && letters[place] == '0';
            token = isWrong ? WRONG : NUMBER;
        }

        private static boolean isDigit(int letter) {
            return letter >= '0' && letter <= '9';
        }
    }
}
