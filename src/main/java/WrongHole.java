import java.util.Arrays;

/**
 * A row of buttons and a row of holes, buttoned one too high: what is in what, what may be undone and
 * done, and what the best way to put it right is. ../shared/DOC.md says what each call promises.
 */
public final class WrongHole {
    public static final int NONE = -1;

    private static final int MISSING = -2;
    private static final int LAST_SECOND = 9999;
    private static final int MOST_RULES = 6;
    private static final int MOST_IMAGES = 4;
    private static final int MOST_CREASES = 10;
    private static final int SEATS = 10;
    private static final int FED = 20;

    private final Text tape;
    private final RuleReader ruleReader;
    private final Rule[] rules;
    private int ruleCount;
    private final Worn now;
    private final Worn[] images;
    private final Past past;
    private final Acts acts;
    private final Folds folds;
    private final int[] words;
    private Paths homeward;
    private Paths outward;

    public WrongHole() {
        tape = new Text();
        ruleReader = new RuleReader();
        rules = new Rule[MOST_RULES];
        now = new Worn();
        images = new Worn[MOST_IMAGES];
        past = new Past();
        acts = new Acts();
        folds = new Folds();
        words = new int[Rule.WORDS];
    }

    public int feed(int a, int b, int c, int d, int e) {
        if (!tape.hasRoom(FED)) {
            return NONE;
        }
        tape.append(a);
        tape.append(b);
        tape.append(c);
        tape.append(d);
        tape.append(e);
        return tape.length;
    }

    public int end(int n) {
        if (n < 0 || n > tape.length) {
            return NONE;
        }
        tape.length = n;
        return n;
    }

    public int lift() {
        Lift told = LiftReader.readLift(tape);
        if (tape.fault != 0) {
            return MISSING - tape.fault;
        }
        tape.length = 0;
        now.lift = told;
        now.key = told.key;
        now.clock = 0;
        now.creases = 0;
        past.forget();
        return told.buttons;
    }

    public int rule() {
        if (ruleCount >= MOST_RULES) {
            return NONE;
        }
        Rule told = ruleReader.readRule(tape);
        // Promise 5 lets all stay only where there are 6 already: a faulty text leaves the TAPE, too.
        tape.length = 0;
        if (told == null) {
            return MISSING - tape.fault;
        }
        rules[ruleCount] = told;
        ruleCount++;
        return ruleCount - 1;
    }

    public int button(int button, int what) {
        Lift lift = now.lift;
        if (lift == null || !lift.hasButton(button)) {
            return MISSING;
        }
        switch (what) {
            case 0:
                return Rows.holeOf(now.key, button);
            case 1:
                return lift.sorts[button];
            case 2:
                return lift.gone >> button & 1;
            case 3:
                return lift.undoing(button);
            case 4:
                return lift.doing(button);
            case 5:
                return lift.worths[button];
            case 6:
                return lift.eyesOn(button, now.clock);
            case 7:
                return lift.able >> button & 1;
            default:
                return MISSING;
        }
    }

    public int hole(int hole, int what) {
        Lift lift = now.lift;
        if (lift == null || !lift.hasHole(hole)) {
            return MISSING;
        }
        switch (what) {
            case 0:
                return Rows.buttonIn(now.key, hole);
            case 1:
                return lift.takes[hole];
            case 2:
                return lift.sewn >> hole & 1;
            default:
                return MISSING;
        }
    }

    public int row(int what) {
        Lift lift = now.lift;
        if (lift == null) {
            return NONE;
        }
        switch (what) {
            case 0:
                return lift.buttons - Integer.bitCount(Rows.in(now.key));
            case 1:
                return Integer.bitCount(Rows.wrong(now.key));
            case 2:
                return Integer.bitCount(Rows.right(now.key));
            case 3:
                return lift.longestOpen(Rows.in(now.key));
            case 4:
                return lift.lawful(Rows.in(now.key)) ? 1 : 0;
            case 5:
                return lift.reached(now.key) ? 1 : 0;
            default:
                return NONE;
        }
    }

    public int shown(int second) {
        if (now.lift == null || second < 0 || second > LAST_SECOND) {
            return NONE;
        }
        return now.lift.shownTo(Rows.right(now.key), second);
    }

    public int unfasten(int button) {
        Lift lift = now.lift;
        if (lift == null || !lift.hasButton(button) || !lift.mayUndo(now.key, button)) {
            return NONE;
        }
        return doByHand(Rows.actOf(0, button, Rows.holeOf(now.key, button)));
    }

    public int fasten(int button, int hole) {
        Lift lift = now.lift;
        if (lift == null || !lift.hasButton(button) || !lift.hasHole(hole)
                || !lift.mayDo(now.key, button, hole)) {
            return NONE;
        }
        return doByHand(Rows.actOf(1, button, hole));
    }

    public int waits(int n) {
        if (now.lift == null || n < 1 || n > 999 || now.clock + n > LAST_SECOND) {
            return NONE;
        }
        past.keep(now.key, now.clock);
        now.clock += n;
        return now.clock;
    }

    public int takeBack() {
        if (past.size == 0) {
            return NONE;
        }
        now.key = past.lastKey();
        now.clock = past.lastClock();
        past.drop();
        return past.size;
    }

    public int run(int rule, int n) {
        Lift lift = now.lift;
        if (lift == null || rule < 0 || rule >= ruleCount || n < 1 || n > 60) {
            return NONE;
        }
        for (int done = 0; done < n; done++) {
            int code = bestBy(rules[rule], lift);
            if (code == NONE || now.clock + lift.secondsOf(code) > LAST_SECOND) {
                return done;
            }
            now.clock += lift.secondsOf(code);
            now.key = Rows.behind(now.key, code);
            past.forget();
        }
        return n;
    }

    public int may() {
        if (now.lift == null) {
            return NONE;
        }
        acts.gather(now.lift, now.key);
        return acts.size;
    }

    public int act(int k, int what) {
        if (now.lift == null || k < 0 || what < 0 || what > 2) {
            return NONE;
        }
        acts.gather(now.lift, now.key);
        return k < acts.size ? Rows.partOf(acts.codes[k], what) : NONE;
    }

    public int fewest(int what) {
        if (now.lift == null || what < 0 || what > 1) {
            return NONE;
        }
        int undone = now.lift.mustUndo(now.key);
        return what == 1 ? undone : undone + Integer.bitCount(now.lift.able & ~Rows.right(now.key));
    }

    public int soonest() {
        if (now.lift == null) {
            return NONE;
        }
        int seconds = pathsHome(now.lift).secondsFrom(now.key);
        return seconds == Paths.FAR ? MISSING : seconds;
    }

    public int step(int k, int what) {
        if (now.lift == null || k < 0 || what < 0 || what > 2) {
            return NONE;
        }
        Paths paths = pathsHome(now.lift);
        int key = now.key;
        int code = paths.firstAct(key);
        for (int i = 0; i < k && code != NONE; i++) {
            key = Rows.behind(key, code);
            code = paths.firstAct(key);
        }
        return code == NONE ? MISSING : Rows.partOf(code, what);
    }

    public int floor(int seconds, int what) {
        if (now.lift == null || seconds < 0 || seconds > 300 || what < 0 || what > 2) {
            return NONE;
        }
        if (outward == null) {
            outward = new Paths(acts);
        }
        outward.leadOut(now.lift, now.key, now.clock, seconds);
        if (what == 0) {
            return outward.mostWorth;
        }
        return what == 1 ? outward.leastShown : outward.fewestSeconds;
    }

    public int goes(int n) {
        Lift lift = now.lift;
        if (lift == null || n < 1 || n > 8) {
            return NONE;
        }
        int wrong = Rows.wrong(now.key);
        int together = 0;
        int stretch = 0;
        for (int button = 0; button < lift.buttons; button++) {
            boolean goesOn = stretch > 0 && (wrong >> button & 1) != 0
                    && Rows.holeOf(now.key, button) == Rows.holeOf(now.key, button - 1) + 1;
            if (goesOn) {
                stretch++;
            } else {
                together += (stretch + n - 1) / n;
                stretch = wrong >> button & 1;
            }
        }
        return together + (stretch + n - 1) / n;
    }

    public int child(int a, int b, int part) {
        if (now.lift == null || a < 1 || b > 9 || a > b || part < 0 || part > 1) {
            return NONE;
        }
        Paths paths = pathsHome(now.lift);
        int left = paths.secondsFrom(now.key);
        if (left == Paths.FAR) {
            return MISSING;
        }
        int above = 0;
        int key = now.key;
        int code = paths.firstAct(key);
        for (int i = 0; i < left && code != NONE; i++) {
            // A well done act takes b / a tries on the mean; all is told in parts of a.
            above += now.lift.secondsOf(code) * (Rows.does(code) == 1 ? b : a);
            key = Rows.behind(key, code);
            code = paths.firstAct(key);
        }
        int common = commonDivisor(above, a);
        return part == 0 ? above / common : a / common;
    }

    public int spare(int button, int what) {
        Lift lift = now.lift;
        if (lift == null || !lift.hasButton(button) || (lift.gone >> button & 1) == 0
                || what < 0 || what > 1) {
            return NONE;
        }
        int best = NONE;
        for (int other = 0; other < lift.buttons; other++) {
            boolean fits = (lift.gone >> other & 1) == 0 && lift.sorts[other] == lift.sorts[button]
                    && lift.worths[other] < lift.worths[button];
            if (fits && (best == NONE || lift.worths[other] <= lift.worths[best])) {
                best = other;
            }
        }
        if (best == NONE) {
            return MISSING;
        }
        return what == 0 ? best : lift.worths[button] - lift.worths[best];
    }

    public int crease(int sort, int button, int hole) {
        if (sort == NONE) {
            now.creases = 0;
            return 0;
        }
        Lift lift = now.lift;
        if (lift == null || now.creases >= MOST_CREASES || !Folds.canBeTold(lift, sort, button, hole)) {
            return MISSING;
        }
        now.creaseSorts[now.creases] = sort;
        now.creaseButtons[now.creases] = button;
        now.creaseHoles[now.creases] = hole;
        now.creases++;
        return now.creases;
    }

    public int ways(int what) {
        Lift lift = now.lift;
        if (lift == null || what < 0 || what > 2) {
            return NONE;
        }
        folds.smooth(lift);
        for (int i = 0; i < now.creases && i < MOST_CREASES; i++) {
            folds.fold(now.creaseSorts[i], now.creaseButtons[i], now.creaseHoles[i]);
        }
        if (what == 0) {
            return folds.howMany();
        }
        return what == 1 ? folds.inAll() : folds.inNone();
    }

    public int seat(int seat, int who) {
        if (seat < 0 || seat >= SEATS || who < NONE || who >= SEATS) {
            return MISSING;
        }
        int sat = now.seats[seat];
        for (int i = 0; i < SEATS; i++) {
            if (now.seats[i] == who) {
                now.seats[i] = NONE;
            }
        }
        now.seats[seat] = who;
        return sat;
    }

    public int moves(int n) {
        if (n < 1 || n > SEATS) {
            return NONE;
        }
        int elsewhere = 0;
        int empty = 0;
        for (int i = 0; i < n; i++) {
            if (now.seats[i] >= n) {
                return NONE;
            }
            if (now.seats[i] == NONE) {
                empty++;
            } else if (now.seats[i] != i) {
                elsewhere++;
            }
        }
        if (empty == 0 && elsewhere > 0) {
            return MISSING;
        }
        return elsewhere + roundsAmong(n);
    }

    public int seed(int x) {
        if (x < 0) {
            return NONE;
        }
        int was = now.x;
        now.x = x;
        return was;
    }

    public int dressed(int m, int n, int what) {
        Lift lift = now.lift;
        if (lift == null || m < 1 || m > 20 || n < 1 || n > 60 || what < 0 || what > 2) {
            return NONE;
        }
        int x = now.x;
        int right = 0;
        int seconds = 0;
        int reached = 0;
        for (int i = 0; i < m; i++) {
            int key = now.key;
            for (int j = 0; j < n; j++) {
                acts.gather(lift, key);
                if (acts.size == 0) {
                    break;
                }
                x = drawnFrom(x);
                int code = acts.codes[(x >> 16) % acts.size];
                seconds += lift.secondsOf(code);
                key = Rows.behind(key, code);
            }
            right += Integer.bitCount(Rows.right(key));
            reached += lift.reached(key) ? 1 : 0;
        }
        if (what == 0) {
            return right;
        }
        return what == 1 ? seconds : reached;
    }

    public int count(int what) {
        Lift lift = now.lift;
        switch (what) {
            case 0:
                return lift == null ? 0 : lift.buttons;
            case 1:
                return lift == null ? 0 : lift.holes;
            case 2:
                return ruleCount;
            case 3:
                return lift == null ? 0 : lift.eyes;
            case 4:
                return now.clock;
            case 5:
                return past.size;
            case 6:
                return lift == null ? NONE : lift.beside;
            case 7:
                return lift == null ? 0 : lift.never;
            case 8:
                return now.creases;
            case 9:
                return emptySeats();
            case 10:
                return now.x;
            case 11:
                return tape.length;
            default:
                return NONE;
        }
    }

    public int image(int k) {
        if (k < 0 || k >= MOST_IMAGES) {
            return NONE;
        }
        if (images[k] == null) {
            images[k] = new Worn();
        }
        images[k].become(now);
        return now.clock;
    }

    public int back(int k) {
        if (k < 0 || k >= MOST_IMAGES || images[k] == null) {
            return NONE;
        }
        now.become(images[k]);
        past.forget();
        return now.clock;
    }

    private int doByHand(int code) {
        int seconds = now.lift == null ? 0 : now.lift.secondsOf(code);
        if (now.clock + seconds > LAST_SECOND) {
            return NONE;
        }
        past.keep(now.key, now.clock);
        now.key = Rows.behind(now.key, code);
        now.clock += seconds;
        return now.clock;
    }

    /** The act that the rule wants most, or NONE. */
    private int bestBy(Rule rule, Lift lift) {
        if (rule == null) {
            return NONE;
        }
        int in = Rows.in(now.key);
        words[Rule.OPEN] = lift.buttons - Integer.bitCount(in);
        words[Rule.WRONG] = Integer.bitCount(Rows.wrong(now.key));
        words[Rule.RUN] = lift.longestOpen(in);
        words[Rule.CLOCK] = now.clock;
        acts.gather(lift, now.key);
        long most = 0;
        int best = NONE;
        for (int i = 0; i < acts.size; i++) {
            int code = acts.codes[i];
            tellOf(code, lift);
            long sum = rule.sumFor(words);
            if (sum > most) {
                most = sum;
                best = code;
            }
        }
        return best;
    }

    private void tellOf(int code, Lift lift) {
        int button = Rows.buttonOf(code);
        words[Rule.DONE] = Rows.does(code);
        words[Rule.BUTTON] = button;
        words[Rule.HOLE] = Rows.partOf(code, 2);
        words[Rule.RIGHT] = button == Rows.partOf(code, 2) ? 1 : 0;
        words[Rule.AFTER] = lift.longestOpen(Rows.in(Rows.behind(now.key, code)));
        words[Rule.SECONDS] = lift.secondsOf(code);
        words[Rule.SEEN] = lift.eyesOn(button, now.clock);
        words[Rule.WORTH] = lift.worths[button];
    }

    private Paths pathsHome(Lift lift) {
        if (homeward == null) {
            homeward = new Paths(acts);
        }
        homeward.leadHome(lift);
        return homeward;
    }

    private int emptySeats() {
        int empty = 0;
        for (int i = 0; i < SEATS; i++) {
            empty += now.seats[i] == NONE ? 1 : 0;
        }
        return empty;
    }

    /** How many rounds of people there are each of whom sits where the next one belongs: each costs one move more. */
    private int roundsAmong(int n) {
        int rounds = 0;
        for (int start = 0; start < n && start < SEATS; start++) {
            int at = now.seats[start];
            // A round is counted at its first seat alone.
            for (int i = 0; i < n && at > start && at < SEATS; i++) {
                at = now.seats[at];
            }
            if (at == start && now.seats[start] != start) {
                rounds++;
            }
        }
        return rounds;
    }

    private static int drawnFrom(int x) {
        return (x * 1103515245 + 12345) & 2147483647;
    }

    /** Of a number not below 0 and one above 0. */
    private static int commonDivisor(int a, int b) {
        int rest = a;
        int common = b;
        for (int i = 0; i < 100 && rest > 0; i++) {
            int next = common % rest;
            common = rest;
            rest = next;
        }
        return common < 1 ? 1 : common;
    }

    /**
     * What is in what, as one number, the key: the bits of the buttons that are in above eight bits of the
     * holes that have one. As all is rising, these two sets tell which is in which. An act is a number, too.
     */
    private static final class Rows {
        private Rows() {
        }

        static int keyOf(int in, int held) {
            return in << 8 | held;
        }

        static int in(int key) {
            return key >> 8 & 255;
        }

        static int held(int key) {
            return key & 255;
        }

        static int below(int place) {
            return (1 << place) - 1;
        }

        /** Whether a button and a hole, both free, are alike in how many in use lie above them. */
        static boolean staysRising(int key, int button, int hole) {
            return Integer.bitCount(in(key) & below(button)) == Integer.bitCount(held(key) & below(hole));
        }

        static int right(int key) {
            int both = in(key) & held(key);
            int right = 0;
            for (int i = 0; i < 8; i++) {
                if ((both >> i & 1) != 0 && staysRising(key, i, i)) {
                    right |= 1 << i;
                }
            }
            return right;
        }

        static int wrong(int key) {
            return in(key) & ~right(key);
        }

        static int holeOf(int key, int button) {
            if ((in(key) >> button & 1) == 0) {
                return NONE;
            }
            return placeOf(held(key), Integer.bitCount(in(key) & below(button)));
        }

        static int buttonIn(int key, int hole) {
            if ((held(key) >> hole & 1) == 0) {
                return NONE;
            }
            return placeOf(in(key), Integer.bitCount(held(key) & below(hole)));
        }

        /** The bit that has so many below it. */
        private static int placeOf(int bits, int fewer) {
            for (int i = 0; i < 8; i++) {
                if ((bits >> i & 1) != 0 && Integer.bitCount(bits & below(i)) == fewer) {
                    return i;
                }
            }
            return NONE;
        }

        static int actOf(int does, int button, int hole) {
            return does << 6 | button << 3 | hole;
        }

        static int does(int code) {
            return code >> 6 & 1;
        }

        static int buttonOf(int code) {
            return code >> 3 & 7;
        }

        static int partOf(int code, int what) {
            if (what == 0) {
                return does(code);
            }
            return what == 1 ? buttonOf(code) : code & 7;
        }

        /** Undoing and doing both turn over one button's bit and one hole's. */
        static int behind(int key, int code) {
            return key ^ 256 << buttonOf(code) ^ 1 << (code & 7);
        }
    }

    /** What was told of the rows; never changed once it has been read. */
    private static final class Lift {
        private static final int MOST_EYES = 6;

        private int buttons;
        private int holes;
        private int gone;
        private int sewn;
        private int never;
        private int beside;
        private int tied;
        private int tieSeconds;
        private int eyes;
        private int key;
        private int able;
        private final int[] sorts = new int[8];
        private final int[] takes = new int[8];
        private final int[] undos = new int[8];
        private final int[] dos = new int[8];
        private final int[] worths = new int[8];
        private final int[] fitting = new int[8];
        private final int[] eyeBits = new int[MOST_EYES];
        private final int[] eyeSeconds = new int[MOST_EYES];

        Lift() {
            Arrays.fill(undos, 1);
            Arrays.fill(dos, 2);
            Arrays.fill(worths, 1);
        }

        /** Once all is told: what else follows from it. */
        void finish() {
            if (beside == 0) {
                beside = 8;
            }
            for (int button = 0; button < buttons; button++) {
                int holesFor = 0;
                for (int hole = 0; hole < holes; hole++) {
                    holesFor |= suits(button, hole) ? 1 << hole : 0;
                }
                fitting[button] = holesFor;
                able |= holesFor & 1 << button;
            }
        }

        boolean hasButton(int button) {
            return button >= 0 && button < buttons;
        }

        boolean hasHole(int hole) {
            return hole >= 0 && hole < holes;
        }

        /** Of a button and a hole that there are. */
        boolean suits(int button, int hole) {
            return (gone >> button & 1) == 0 && (sewn >> hole & 1) == 0 && sorts[button] == takes[hole];
        }

        boolean canBe(int rows, int button, int hole) {
            return (Rows.in(rows) >> button & 1) == 0 && (Rows.held(rows) >> hole & 1) == 0
                    && suits(button, hole) && Rows.staysRising(rows, button, hole);
        }

        boolean mayUndo(int rows, int button) {
            int in = Rows.in(rows);
            return (in >> button & 1) != 0 && lawful(in & ~(1 << button));
        }

        boolean mayDo(int rows, int button, int hole) {
            return canBe(rows, button, hole) && lawful(Rows.in(rows) | 1 << button);
        }

        int longestOpen(int in) {
            int runs = (1 << buttons) - 1 & ~in;
            int longest = 0;
            // Each time the lowest button of each run falls out.
            for (int i = 0; i < 8 && runs != 0; i++) {
                runs &= runs << 1;
                longest++;
            }
            return longest;
        }

        boolean lawful(int in) {
            return (never & ~in) == 0 && longestOpen(in) <= beside;
        }

        boolean reached(int rows) {
            return (able & ~Rows.right(rows)) == 0;
        }

        int undoing(int button) {
            return undos[button] + (button < tied ? tieSeconds : 0);
        }

        int doing(int button) {
            return dos[button] + (button < tied ? tieSeconds : 0);
        }

        int secondsOf(int code) {
            int button = Rows.buttonOf(code);
            return Rows.does(code) == 1 ? doing(button) : undoing(button);
        }

        int eyesOn(int button, int second) {
            int seen = 0;
            for (int i = 0; i < eyes; i++) {
                seen += eyeSeconds[i] <= second ? eyeBits[i] >> button & 1 : 0;
            }
            return seen;
        }

        /** What is not right is open or wrong. */
        int shownTo(int right, int second) {
            int shown = 0;
            for (int i = 0; i < eyes; i++) {
                shown += eyeSeconds[i] <= second ? Integer.bitCount(eyeBits[i] & ~right) : 0;
            }
            return shown;
        }

        int worthOf(int bits) {
            int worth = 0;
            for (int button = 0; button < buttons; button++) {
                worth += (bits >> button & 1) != 0 ? worths[button] : 0;
            }
            return worth;
        }

        /** Those that are wrong and can be right, and others that are in the way of these. */
        int mustUndo(int rows) {
            int goal = Rows.keyOf(able, able);
            int wrong = Rows.wrong(rows);
            int undone = 0;
            for (int button = 0; button < buttons; button++) {
                if ((wrong >> button & 1) != 0 && !canBe(goal, button, Rows.holeOf(rows, button))) {
                    undone++;
                }
            }
            return undone;
        }
    }

    /** What changes but for the tape and the rules: what an image keeps. */
    private static final class Worn {
        private Lift lift;
        private int key;
        private int clock;
        private int x;
        private int creases;
        private final int[] creaseSorts = new int[MOST_CREASES];
        private final int[] creaseButtons = new int[MOST_CREASES];
        private final int[] creaseHoles = new int[MOST_CREASES];
        private final int[] seats = new int[SEATS];

        Worn() {
            Arrays.fill(seats, NONE);
        }

        void become(Worn other) {
            lift = other.lift;
            key = other.key;
            clock = other.clock;
            x = other.x;
            creases = other.creases;
            System.arraycopy(other.creaseSorts, 0, creaseSorts, 0, MOST_CREASES);
            System.arraycopy(other.creaseButtons, 0, creaseButtons, 0, MOST_CREASES);
            System.arraycopy(other.creaseHoles, 0, creaseHoles, 0, MOST_CREASES);
            System.arraycopy(other.seats, 0, seats, 0, SEATS);
        }
    }

    /** How it was ahead of each of the last acts and waits by hand, in a round. */
    private static final class Past {
        private static final int MOST = 20;

        private final int[] keys = new int[MOST];
        private final int[] clocks = new int[MOST];
        private int next;
        private int size;

        void keep(int key, int clock) {
            keys[next] = key;
            clocks[next] = clock;
            next = (next + 1) % MOST;
            size = Math.min(size + 1, MOST);
        }

        int lastKey() {
            return keys[(next + MOST - 1) % MOST];
        }

        int lastClock() {
            return clocks[(next + MOST - 1) % MOST];
        }

        void drop() {
            next = (next + MOST - 1) % MOST;
            size = Math.max(size - 1, 0);
        }

        void forget() {
            next = 0;
            size = 0;
        }
    }

    /** The tape, and the reading of it, token by token, up to its first fault. */
    private static final class Text {
        private static final int MOST = 400;
        private static final int MOST_DIGITS = 5;
        private static final int MOST_NUMBER = 99999;

        /** Kinds of tokens; any other sign is a kind of its own. */
        private static final int END = -1;
        private static final int NUMBER = 256;
        private static final int WORD = 257;
        private static final int AT_MOST = 258;
        private static final int AT_LEAST = 259;

        private static final int CANNOT_STAND = 0;
        private static final int NOT_AS_TOLD = 1;
        private static final int TOO_DEEP = 2;
        private static final int PART_TOO_MANY = 3;
        private static final int CLAUSE_TOO_MANY = 4;

        private final char[] signs = new char[MOST];
        private int length;
        private int kind;
        private int place;
        private int behind;
        private int value;
        private int numberPlace;
        private int fault;

        Text() {
        }

        boolean hasRoom(int more) {
            return length + more <= MOST;
        }

        void append(int number) {
            for (int shift = 24; shift >= 0; shift -= 8) {
                if (length < MOST) {
                    signs[length] = (char) (number >> shift & 255);
                    length++;
                }
            }
        }

        void restart() {
            fault = 0;
            behind = 0;
            pass();
        }

        boolean sound() {
            return fault == 0;
        }

        /** Reading goes along the text, so the first fault found is the first along it. */
        void failHere(int which) {
            if (fault == 0) {
                fault = 1 + 8 * place + which;
            }
        }

        /** The number taken last is not as told. */
        void refuseNumber() {
            if (fault == 0) {
                fault = 1 + 8 * numberPlace + NOT_AS_TOLD;
            }
        }

        /** On to the next token. */
        void pass() {
            place = behind;
            for (int i = behind; i < length && signs[i] == ' '; i++) {
                place++;
            }
            behind = place;
            kind = place < length ? signs[place] : END;
            if (kind >= '0' && kind <= '9') {
                kind = NUMBER;
                passDigits();
            } else if (kind >= 'a' && kind <= 'z') {
                kind = WORD;
                passLetters();
            } else if (kind != END) {
                behind++;
                joinSame();
            }
        }

        private void passDigits() {
            value = 0;
            for (int i = place; i < length && signs[i] >= '0' && signs[i] <= '9'; i++) {
                // More digits are a fault whatever they tell: a number too great for all stands for them.
                value = i - place < MOST_DIGITS ? value * 10 + signs[i] - '0' : MOST_NUMBER + 1;
                behind++;
            }
        }

        private void passLetters() {
            for (int i = place; i < length && signs[i] >= 'a' && signs[i] <= 'z'; i++) {
                behind++;
            }
        }

        private void joinSame() {
            if (behind < length && signs[behind] == '=' && (kind == '<' || kind == '>')) {
                kind = kind == '<' ? AT_MOST : AT_LEAST;
                behind++;
            }
        }

        void takeSign(int sign) {
            if (kind == sign) {
                pass();
            } else {
                failHere(CANNOT_STAND);
            }
        }

        /** Which of the names, told with blanks between, the word here is; NONE if it is no one of them. */
        int whichWord(String names) {
            if (kind != WORD) {
                return NONE;
            }
            int which = 0;
            int i = place;
            boolean same = true;
            for (int p = 0; p <= names.length(); p++) {
                if (p == names.length() || names.charAt(p) == ' ') {
                    if (same && i == behind) {
                        return which;
                    }
                    which++;
                    i = place;
                    same = true;
                } else if (i < behind && signs[i] == names.charAt(p)) {
                    i++;
                } else {
                    same = false;
                }
            }
            return NONE;
        }

        /** Whether the word here is this one: then reading goes on behind it. */
        boolean takeWord(String name) {
            if (whichWord(name) == NONE) {
                return false;
            }
            pass();
            return true;
        }

        /** A number from least to most; where there is none or another one, a fault, and NONE. */
        int takeNumber(int least, int most) {
            numberPlace = place;
            if (kind != NUMBER) {
                failHere(CANNOT_STAND);
                return NONE;
            }
            int number = value;
            pass();
            if (number < least || number > most) {
                refuseNumber();
                return NONE;
            }
            return number;
        }
    }

    private static final class LiftReader {
        private static final int MOST_CLAUSES = 40;
        private static final String NAMES =
                "row gone sewn sort takes in undo do tie beside never worth eye";
        private static final int ROW = 0;
        private static final int GONE = 1;
        private static final int SEWN = 2;
        private static final int SORT = 3;
        private static final int TAKES = 4;
        private static final int IN = 5;
        private static final int UNDO = 6;
        private static final int DO = 7;
        private static final int TIE = 8;
        private static final int BESIDE = 9;
        private static final int NEVER = 10;
        private static final int WORTH = 11;
        private static final int EYE = 12;

        private LiftReader() {
        }

        /** What the text tells; where it has a fault, that stands in the text. */
        static Lift readLift(Text text) {
            Lift lift = new Lift();
            text.restart();
            for (int clause = 0; clause <= MOST_CLAUSES && text.sound(); clause++) {
                int name = text.whichWord(NAMES);
                if (name == NONE) {
                    text.failHere(Text.CANNOT_STAND);
                } else if (clause == MOST_CLAUSES || isTooMany(lift, name, clause)) {
                    text.failHere(Text.CLAUSE_TOO_MANY);
                } else {
                    text.pass();
                    readTold(text, lift, name);
                }
                if (text.kind == Text.END) {
                    break;
                }
                text.takeSign(';');
            }
            lift.finish();
            return lift;
        }

        private static boolean isTooMany(Lift lift, int name, int clause) {
            return (name == ROW) != (clause == 0)
                    || name == TIE && lift.tied > 0
                    || name == BESIDE && lift.beside > 0
                    || name == EYE && lift.eyes >= Lift.MOST_EYES;
        }

        private static void readTold(Text text, Lift lift, int name) {
            switch (name) {
                case ROW:
                    readRow(text, lift);
                    break;
                case GONE:
                    lift.gone |= bitOf(takeOpenButton(text, lift));
                    break;
                case SEWN:
                    lift.sewn |= bitOf(takeEmptyHole(text, lift));
                    break;
                case SORT:
                    put(text, lift.sorts, takeOpenButton(text, lift), 0, 3);
                    break;
                case TAKES:
                    put(text, lift.takes, takeEmptyHole(text, lift), 0, 3);
                    break;
                case IN:
                    readIn(text, lift);
                    break;
                case UNDO:
                    put(text, lift.undos, takeButton(text, lift), 1, 20);
                    break;
                case DO:
                    put(text, lift.dos, takeButton(text, lift), 1, 20);
                    break;
                case TIE:
                    readTie(text, lift);
                    break;
                case BESIDE:
                    lift.beside = text.takeNumber(1, 8);
                    break;
                case NEVER:
                    lift.never |= bitOf(takeButton(text, lift));
                    break;
                case WORTH:
                    put(text, lift.worths, takeButton(text, lift), 0, 99);
                    break;
                default:
                    readEye(text, lift);
                    break;
            }
        }

        private static int bitOf(int place) {
            return place < 0 ? 0 : 1 << place;
        }

        private static int takeButton(Text text, Lift lift) {
            return text.takeNumber(0, lift.buttons - 1);
        }

        private static int takeOpenButton(Text text, Lift lift) {
            int button = text.takeNumber(0, lift.buttons - 1);
            if (button >= 0 && (Rows.in(lift.key) >> button & 1) != 0) {
                text.refuseNumber();
            }
            return button;
        }

        private static int takeEmptyHole(Text text, Lift lift) {
            int hole = text.takeNumber(0, lift.holes - 1);
            if (hole >= 0 && (Rows.held(lift.key) >> hole & 1) != 0) {
                text.refuseNumber();
            }
            return hole;
        }

        /** The next number becomes that of a place. */
        private static void put(Text text, int[] row, int place, int least, int most) {
            int number = text.takeNumber(least, most);
            if (number >= 0 && place >= 0 && place < row.length) {
                row[place] = number;
            }
        }

        private static void readRow(Text text, Lift lift) {
            int buttons = text.takeNumber(1, 8);
            int holes = text.takeNumber(1, 8);
            if (text.sound()) {
                lift.buttons = buttons;
                lift.holes = holes;
            }
        }

        private static void readIn(Text text, Lift lift) {
            int button = takeOpenButton(text, lift);
            int hole = text.takeNumber(0, lift.holes - 1);
            if (button < 0 || hole < 0) {
                return;
            }
            if (lift.canBe(lift.key, button, hole)) {
                lift.key = Rows.behind(lift.key, Rows.actOf(1, button, hole));
            } else {
                text.refuseNumber();
            }
        }

        private static void readTie(Text text, Lift lift) {
            lift.tied = text.takeNumber(1, 8);
            lift.tieSeconds = text.takeNumber(1, 20);
        }

        private static void readEye(Text text, Lift lift) {
            int from = takeButton(text, lift);
            int to = text.takeNumber(from, lift.buttons - 1);
            int second = text.takeNumber(0, 999);
            if (text.sound() && lift.eyes < Lift.MOST_EYES) {
                lift.eyeBits[lift.eyes] = Rows.below(to + 1) & ~Rows.below(from);
                lift.eyeSeconds[lift.eyes] = second;
                lift.eyes++;
            }
        }
    }

    /** A rule's clauses as code for a stack: each its sum's, then its test's. */
    private static final class Rule {
        private static final int WORDS = 12;
        private static final int DONE = 0;
        private static final int BUTTON = 1;
        private static final int HOLE = 2;
        private static final int RIGHT = 3;
        private static final int OPEN = 4;
        private static final int WRONG = 5;
        private static final int RUN = 6;
        private static final int AFTER = 7;
        private static final int SECONDS = 8;
        private static final int CLOCK = 9;
        private static final int SEEN = 10;
        private static final int WORTH = 11;
        /** Two for each of eleven depths that tests can have, and four for the sums of a fact, fit in. */
        private static final int STACK = 64;

        private final int[] code;
        private final int[] bounds;
        private final long[] stack = new long[STACK];

        Rule(int[] code, int[] bounds) {
            this.code = code;
            this.bounds = bounds;
        }

        /** The sum of the first clause that holds for an act of which the words are so, or 0. */
        long sumFor(int[] words) {
            for (int i = 0; i + 2 < bounds.length; i += 2) {
                int test = bounds[i + 1];
                int end = bounds[i + 2];
                if (test == end || reckon(test, end, words) != 0) {
                    return reckon(bounds[i], test, words);
                }
            }
            return 0;
        }

        private long reckon(int from, int to, int[] words) {
            int top = 0;
            for (int i = from; i < to && i < code.length; i++) {
                int kind = code[i] & 15;
                int value = code[i] >> 4;
                if (kind <= RuleReader.WORD) {
                    if (top < STACK) {
                        stack[top] = kind == RuleReader.NUMBER ? value : wordAt(words, value);
                        top++;
                    }
                } else if (kind == RuleReader.NOT) {
                    if (top >= 1) {
                        stack[top - 1] = stack[top - 1] == 0 ? 1 : 0;
                    }
                } else if (top >= 2) {
                    top--;
                    stack[top - 1] = join(kind, stack[top - 1], stack[top]);
                }
            }
            return top >= 1 ? stack[top - 1] : 0;
        }

        private static int wordAt(int[] words, int which) {
            return which >= 0 && which < words.length ? words[which] : 0;
        }

        private static long join(int kind, long a, long b) {
            switch (kind) {
                case RuleReader.ADD:
                    return a + b;
                case RuleReader.LESSEN:
                    return a - b;
                case RuleReader.TIMES:
                    return a * b;
                case RuleReader.DIVIDE:
                    return b == 0 ? 0 : a / b;
                case RuleReader.REST:
                    return b == 0 ? 0 : a % b;
                case RuleReader.BELOW:
                    return a < b ? 1 : 0;
                case RuleReader.NOT_ABOVE:
                    return a <= b ? 1 : 0;
                case RuleReader.SAME:
                    return a == b ? 1 : 0;
                case RuleReader.NOT_BELOW:
                    return a >= b ? 1 : 0;
                case RuleReader.ABOVE:
                    return a > b ? 1 : 0;
                case RuleReader.AND:
                    return a & b;
                default:
                    return a | b;
            }
        }
    }

    private static final class RuleReader {
        private static final int NUMBER = 0;
        private static final int WORD = 1;
        private static final int ADD = 2;
        private static final int LESSEN = 3;
        private static final int TIMES = 4;
        private static final int DIVIDE = 5;
        private static final int REST = 6;
        private static final int BELOW = 7;
        private static final int NOT_ABOVE = 8;
        private static final int SAME = 9;
        private static final int NOT_BELOW = 10;
        private static final int ABOVE = 11;
        private static final int NOT = 12;
        private static final int AND = 13;
        private static final int OR = 14;

        private static final int MOST_CLAUSES = 12;
        private static final int MOST_DEPTH = 10;
        private static final int MOST_PARTS = 60;
        private static final String NAMES =
                "done button hole right open wrong run after seconds clock seen worth";

        /** Each piece of code comes of a byte of its own at least. */
        private final int[] code = new int[Text.MOST];
        private final int[] bounds = new int[2 * MOST_CLAUSES + 1];
        private int size;
        private int parts;

        RuleReader() {
        }

        /** The rule, or null if the text has a fault, which stands in the text then. */
        Rule readRule(Text text) {
            size = 0;
            parts = 0;
            int clauses = 0;
            text.restart();
            for (int clause = 0; clause <= MOST_CLAUSES && text.sound(); clause++) {
                if (text.whichWord("act") == NONE) {
                    text.failHere(Text.CANNOT_STAND);
                } else if (clause == MOST_CLAUSES) {
                    text.failHere(Text.CLAUSE_TOO_MANY);
                } else {
                    text.pass();
                    bounds[2 * clause] = size;
                    readSum(text);
                    bounds[2 * clause + 1] = size;
                    if (text.takeWord("if")) {
                        readTest(text, 0);
                    }
                    clauses++;
                    bounds[2 * clauses] = size;
                }
                if (text.kind == Text.END) {
                    break;
                }
                text.takeSign(';');
            }
            if (!text.sound()) {
                return null;
            }
            return new Rule(Arrays.copyOf(code, size), Arrays.copyOf(bounds, 2 * clauses + 1));
        }

        private void emit(int kind, int value) {
            if (size < code.length) {
                code[size] = value << 4 | kind;
                size++;
            }
        }

        /** Of a value or a sign that is the token here. */
        private void countPart(Text text) {
            parts++;
            if (parts > MOST_PARTS) {
                text.failHere(Text.PART_TOO_MANY);
            }
        }

        /** A + or - waits until its term is whole. */
        private void readSum(Text text) {
            int waiting = NONE;
            readValue(text);
            for (int i = 0; i < Text.MOST && text.sound(); i++) {
                int sign = signKind(text.kind);
                if (sign == ADD || sign == LESSEN) {
                    emitWaiting(waiting);
                    waiting = sign;
                    text.pass();
                    readValue(text);
                } else if (sign == TIMES || sign == DIVIDE || sign == REST) {
                    text.pass();
                    readValue(text);
                    emit(sign, 0);
                } else {
                    break;
                }
            }
            emitWaiting(waiting);
        }

        private void emitWaiting(int kind) {
            if (kind != NONE) {
                emit(kind, 0);
            }
        }

        private void readValue(Text text) {
            int name = text.whichWord(NAMES);
            if (name == NONE && text.kind != Text.NUMBER) {
                text.failHere(Text.CANNOT_STAND);
            } else if (name == NONE && text.value > Text.MOST_NUMBER) {
                text.failHere(Text.NOT_AS_TOLD);
            } else {
                countPart(text);
                emit(name == NONE ? NUMBER : WORD, name == NONE ? text.value : name);
                text.pass();
            }
        }

        /** An or waits until its part is whole. */
        private void readTest(Text text, int depth) {
            int waiting = NONE;
            readFact(text, depth);
            for (int i = 0; i < Text.MOST && text.sound(); i++) {
                if (text.takeWord("and")) {
                    readFact(text, depth);
                    emit(AND, 0);
                } else if (text.takeWord("or")) {
                    emitWaiting(waiting);
                    waiting = OR;
                    readFact(text, depth);
                } else {
                    break;
                }
            }
            emitWaiting(waiting);
        }

        private void readFact(Text text, int depth) {
            boolean not = text.whichWord("not") == 0;
            if ((not || text.kind == '[') && depth >= MOST_DEPTH) {
                text.failHere(Text.TOO_DEEP);
            } else if (not) {
                text.pass();
                readFact(text, depth + 1);
                emit(NOT, 0);
            } else if (text.kind == '[') {
                text.pass();
                readTest(text, depth + 1);
                text.takeSign(']');
            } else {
                readSum(text);
                int sign = takeComparison(text);
                readSum(text);
                emit(sign, 0);
            }
        }

        private int takeComparison(Text text) {
            int sign = signKind(text.kind);
            if (sign < BELOW) {
                text.failHere(Text.CANNOT_STAND);
                return SAME;
            }
            countPart(text);
            text.pass();
            return sign;
        }

        /** The code for a sign of sums or facts, or NONE. */
        private static int signKind(int token) {
            switch (token) {
                case '+':
                    return ADD;
                case '-':
                    return LESSEN;
                case '*':
                    return TIMES;
                case '/':
                    return DIVIDE;
                case '%':
                    return REST;
                case '<':
                    return BELOW;
                case Text.AT_MOST:
                    return NOT_ABOVE;
                case '=':
                    return SAME;
                case Text.AT_LEAST:
                    return NOT_BELOW;
                case '>':
                    return ABOVE;
                default:
                    return NONE;
            }
        }
    }

    /** The acts of a row in their order. */
    private static final class Acts {
        /** Eight undoings and sixty-four doings are more than there can be at once. */
        private static final int MOST = 72;

        /** Of each button the hole in which it is, or those into which it can be done, as bits. */
        private final int[] spots = new int[8];
        private final int[] codes = new int[MOST];
        private int size;

        Acts() {
        }

        void survey(Lift lift, int key) {
            int in = Rows.in(key);
            int rest = Rows.held(key);
            int above = 0;
            for (int button = 0; button < lift.buttons; button++) {
                int next = rest & -rest;
                if ((in >> button & 1) != 0) {
                    spots[button] = next;
                    rest ^= next;
                    above = (next << 1) - 1;
                } else {
                    int ahead = next == 0 ? 255 : next - 1;
                    spots[button] = ahead & ~above & lift.fitting[button];
                }
            }
        }

        /** Those that may be. */
        void gather(Lift lift, int key) {
            survey(lift, key);
            size = 0;
            int in = Rows.in(key);
            for (int button = 0; button < lift.buttons; button++) {
                if ((in >> button & 1) != 0 && lift.lawful(in & ~(1 << button))) {
                    add(0, button, spots[button]);
                }
            }
            for (int button = 0; button < lift.buttons; button++) {
                boolean can = (in >> button & 1) == 0 && spots[button] != 0;
                if (can && lift.lawful(in | 1 << button)) {
                    add(1, button, spots[button]);
                }
            }
        }

        private void add(int does, int button, int holes) {
            for (int hole = 0; hole < 8 && size < MOST; hole++) {
                if ((holes >> hole & 1) != 0) {
                    codes[size] = Rows.actOf(does, button, hole);
                    size++;
                }
            }
        }
    }

    /**
     * The fewest seconds from a row to all others, or from all rows to a goal. Rows wait in buckets by
     * their seconds; as no act takes more than 40 seconds, 64 buckets in a round are enough.
     */
    private static final class Paths {
        private static final int FAR = 1000000000;
        /** Far above the seconds that 12870 rows at most, one behind the other, can take. */
        private static final int LAST = 1000000;
        private static final int BUCKETS = 64;

        private final Acts acts;
        private final int[] offsets = new int[256];
        private final int[] ranks = new int[256];
        private final int[] alike = new int[9];
        private final int[] firsts = new int[BUCKETS];
        private int[] seconds = new int[0];
        private int[] keys = new int[0];
        private int[] nexts = new int[0];
        private int[] befores = new int[0];
        private int size;
        private int waiting;
        private Lift lift;
        private boolean outward;
        private int origin;
        private int clock;
        private int limit;
        private int mostWorth;
        private int leastShown;
        private int fewestSeconds;

        Paths(Acts acts) {
            this.acts = acts;
        }

        /** From all rows to a goal: the same for a lift whatever is in what now. */
        void leadHome(Lift told) {
            if (lift == told) {
                return;
            }
            prepare(told);
            outward = false;
            limit = LAST;
            spreadFrom(Rows.keyOf(told.able, told.able));
        }

        /** From one row to all that can be in so many seconds, and the best of these. */
        void leadOut(Lift told, int key, int second, int most) {
            if (lift == told && origin == key && clock == second && limit == most) {
                return;
            }
            prepare(told);
            outward = true;
            origin = key;
            clock = second;
            limit = most;
            mostWorth = NONE;
            spreadFrom(key);
        }

        int secondsFrom(int key) {
            int row = placeOf(key);
            return row == NONE ? FAR : seconds[row];
        }

        /** The first act by which a goal is as soon still, or NONE. */
        int firstAct(int key) {
            int here = secondsFrom(key);
            if (lift == null || here == 0 || here == FAR) {
                return NONE;
            }
            acts.gather(lift, key);
            for (int i = 0; i < acts.size; i++) {
                int code = acts.codes[i];
                if (secondsFrom(Rows.behind(key, code)) + lift.secondsOf(code) == here) {
                    return code;
                }
            }
            return NONE;
        }

        private void prepare(Lift told) {
            if (lift == null || lift.buttons != told.buttons || lift.holes != told.holes) {
                numberRows(told);
            }
            lift = told;
            if (seconds.length < size) {
                seconds = new int[size];
                keys = new int[size];
                nexts = new int[size];
                befores = new int[size];
            }
            Arrays.fill(seconds, FAR);
            Arrays.fill(firsts, NONE);
            waiting = 0;
        }

        /** Each set of buttons goes with the sets of as many holes: these rows get numbers without gaps. */
        private void numberRows(Lift told) {
            Arrays.fill(alike, 0);
            for (int held = 0; held < 1 << told.holes && held < 256; held++) {
                int many = Integer.bitCount(held);
                ranks[held] = alike[many];
                alike[many]++;
            }
            size = 0;
            for (int in = 0; in < 1 << told.buttons && in < 256; in++) {
                offsets[in] = size;
                size += alike[Integer.bitCount(in)];
            }
        }

        private int placeOf(int key) {
            int row = offsets[key >> 8 & 255] + ranks[key & 255];
            return row < size && row < seconds.length ? row : NONE;
        }

        private void link(int row, int key, int after) {
            int bucket = after & BUCKETS - 1;
            int first = firsts[bucket];
            seconds[row] = after;
            keys[row] = key;
            nexts[row] = first;
            befores[row] = NONE;
            if (first >= 0) {
                befores[first] = row;
            }
            firsts[bucket] = row;
            waiting++;
        }

        private void unlink(int row) {
            int next = nexts[row];
            int before = befores[row];
            if (before >= 0) {
                nexts[before] = next;
            } else {
                firsts[seconds[row] & BUCKETS - 1] = next;
            }
            if (next >= 0) {
                befores[next] = before;
            }
            waiting--;
        }

        private void spreadFrom(int key) {
            int start = placeOf(key);
            if (start != NONE) {
                link(start, key, 0);
            }
            for (int second = 0; second <= LAST && waiting > 0; second++) {
                int bucket = second & BUCKETS - 1;
                for (int i = 0; i < size && firsts[bucket] >= 0; i++) {
                    int row = firsts[bucket];
                    unlink(row);
                    if (outward) {
                        weigh(keys[row], second);
                        goOn(keys[row], second);
                    } else {
                        goBack(keys[row], second);
                    }
                }
            }
        }

        /** Rows come by their seconds, so of rows alike the first stays. */
        private void weigh(int key, int second) {
            int right = Rows.right(key);
            int worth = lift.worthOf(right);
            if (worth < mostWorth) {
                return;
            }
            int shown = lift.shownTo(right, clock + limit);
            if (worth > mostWorth || shown < leastShown) {
                mostWorth = worth;
                leastShown = shown;
                fewestSeconds = second;
            }
        }

        private void goOn(int key, int second) {
            int in = Rows.in(key);
            acts.survey(lift, key);
            for (int button = 0; button < lift.buttons; button++) {
                int spots = acts.spots[button];
                if (spots != 0 && lift.lawful(in ^ 1 << button)) {
                    boolean undoes = (in >> button & 1) != 0;
                    int after = second + (undoes ? lift.undoing(button) : lift.doing(button));
                    offer(key ^ 256 << button, spots, after);
                }
            }
        }

        /** To all rows from which an act leads here: a law is asked of the row behind an act alone. */
        private void goBack(int key, int second) {
            int in = Rows.in(key);
            boolean lawful = lift.lawful(in);
            if (!lawful && second > 0) {
                return;
            }
            acts.survey(lift, key);
            for (int button = 0; button < lift.buttons; button++) {
                int spots = acts.spots[button];
                boolean isIn = (in >> button & 1) != 0;
                // A goal with one more that can't be right is a goal as well: so all goals are found from one.
                boolean goalToo = second == 0 && !isIn && (lift.able >> button & 1) == 0;
                if (spots != 0 && (lawful || goalToo)) {
                    int ahead = second + (isIn ? lift.doing(button) : lift.undoing(button));
                    offer(key ^ 256 << button, spots, goalToo ? 0 : ahead);
                }
            }
        }

        /** The rows in which one hole of these is turned over wait for their turn, if they had not come sooner. */
        private void offer(int key, int spots, int after) {
            for (int hole = 0; hole < 8 && after <= limit; hole++) {
                int row = (spots >> hole & 1) != 0 ? placeOf(key ^ 1 << hole) : NONE;
                if (row != NONE && after < seconds[row]) {
                    if (seconds[row] != FAR) {
                        unlink(row);
                    }
                    link(row, key ^ 1 << hole, after);
                }
            }
        }
    }

    /** How it can have been by creases. */
    private static final class Folds {
        private static final int SIDE = 9;

        private final int[] possible = new int[8];
        private final int[] tallies = new int[SIDE * SIDE];
        private int buttons;
        private int holes;
        private int mustBeIn;
        private int mustBeHeld;

        Folds() {
        }

        static boolean canBeTold(Lift lift, int sort, int button, int hole) {
            if (sort < 0 || sort > 5 || !lift.hasButton(button) || !lift.hasHole(hole)) {
                return false;
            }
            if (sort <= 1) {
                return hole == 0;
            }
            return sort > 3 || button == 0;
        }

        /** As it can have been without any crease. */
        void smooth(Lift lift) {
            buttons = lift.buttons;
            holes = lift.holes;
            mustBeIn = 0;
            mustBeHeld = 0;
            for (int button = 0; button < buttons; button++) {
                possible[button] = 0;
                for (int hole = 0; hole < holes; hole++) {
                    possible[button] |= lift.sorts[button] == lift.takes[hole] ? 1 << hole : 0;
                }
            }
        }

        /** Of a button and a hole that there are. */
        void fold(int sort, int button, int hole) {
            int bit = 1 << hole;
            if (sort == 0 || sort == 4) {
                mustBeIn |= 1 << button;
            }
            if (sort == 1) {
                possible[button] = 0;
            }
            if (sort == 2) {
                mustBeHeld |= bit;
            }
            if (sort == 3) {
                for (int other = 0; other < buttons; other++) {
                    possible[other] &= ~bit;
                }
            }
            if (sort == 4) {
                possible[button] &= bit;
            }
            if (sort == 5) {
                possible[button] &= ~bit;
            }
        }

        int howMany() {
            return tally(mustBeIn);
        }

        int inAll() {
            int bits = 0;
            if (howMany() == 0) {
                return bits;
            }
            for (int button = 0; button < buttons; button++) {
                int holesFor = possible[button];
                possible[button] = 0;
                bits |= tally(mustBeIn) == 0 ? 1 << button : 0;
                possible[button] = holesFor;
            }
            return bits;
        }

        int inNone() {
            int bits = 0;
            if (howMany() == 0) {
                return bits;
            }
            for (int button = 0; button < buttons; button++) {
                bits |= tally(mustBeIn | 1 << button) == 0 ? 1 << button : 0;
            }
            return bits;
        }

        /** Each place of the table: the ways for the buttons from one on with the holes from one on. */
        private int tally(int must) {
            for (int hole = 0; hole <= holes; hole++) {
                tallies[buttons * SIDE + hole] = mustBeHeld >> hole == 0 ? 1 : 0;
            }
            for (int button = buttons - 1; button >= 0; button--) {
                for (int hole = holes; hole >= 0; hole--) {
                    tallies[button * SIDE + hole] = tallyAt(button, hole, must);
                }
            }
            return tallies[0];
        }

        private int tallyAt(int button, int from, int must) {
            int below = (button + 1) * SIDE;
            int sum = (must >> button & 1) != 0 ? 0 : tallies[below + from];
            for (int hole = from; hole < holes; hole++) {
                if ((possible[button] >> hole & 1) != 0) {
                    sum += tallies[below + hole + 1];
                }
                // A hole that had one can't be left out.
                if ((mustBeHeld >> hole & 1) != 0) {
                    break;
                }
            }
            return sum;
        }
    }
}
