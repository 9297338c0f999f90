import java.util.ArrayList;
import java.util.Arrays;
import java.util.HashMap;
import java.util.List;
import java.util.Map;
import java.util.PriorityQueue;
import java.util.TreeMap;

/**
 * The document once more, as slowly and plainly as can be, with other data and other ways than the class:
 * rows are arrays of holes, ways are searched for from each row anew, rules are read as trees.
 */
final class Model {
    static final class Fault extends RuntimeException {
        private static final long serialVersionUID = 1;
        final int place;
        final int kind;

        Fault(int place, int kind) {
            super(null, null, false, false);
            this.place = place;
            this.kind = kind;
        }

        int answer() {
            return -2 - (1 + 8 * place + kind);
        }
    }

    /** A word, a number or a sign, and where it begins. */
    record Token(String text, int place) {
        boolean isNumber() {
            return !text.isEmpty() && Character.isDigit(text.charAt(0));
        }

        boolean isWord() {
            return !text.isEmpty() && Character.isLowerCase(text.charAt(0)) && text.charAt(0) < 128;
        }
    }

    record Act(boolean does, int button, int hole) {
        int part(int what) {
            return what == 0 ? (does ? 1 : 0) : what == 1 ? button : hole;
        }
    }

    record Eye(int from, int to, int second) {
    }

    static final class Told {
        int buttons;
        int holes;
        boolean[] gone = new boolean[8];
        boolean[] sewn = new boolean[8];
        boolean[] never = new boolean[8];
        int[] sort = new int[8];
        int[] takes = new int[8];
        int[] undo = {1, 1, 1, 1, 1, 1, 1, 1};
        int[] dos = {2, 2, 2, 2, 2, 2, 2, 2};
        int[] worth = {1, 1, 1, 1, 1, 1, 1, 1};
        int tied = -1;
        int tieSeconds;
        int beside = -1;
        List<Eye> eyes = new ArrayList<>();
        int[] row;

        boolean fits(int[] at, int b, int h) {
            if (gone[b] || sewn[h] || sort[b] != takes[h]) {
                return false;
            }
            for (int o = 0; o < buttons; o++) {
                if (o != b && at[o] >= 0 && (at[o] == h || (o < b) != (at[o] < h))) {
                    return false;
                }
            }
            return true;
        }

        int run(int[] at) {
            int most = 0;
            int here = 0;
            for (int b = 0; b < buttons; b++) {
                here = at[b] < 0 ? here + 1 : 0;
                most = Math.max(most, here);
            }
            return most;
        }

        boolean lawful(int[] at) {
            for (int b = 0; b < buttons; b++) {
                if (at[b] < 0 && never[b]) {
                    return false;
                }
            }
            return run(at) <= (beside < 0 ? 8 : beside);
        }

        boolean canBeRight(int b) {
            return !gone[b] && b < holes && !sewn[b] && sort[b] == takes[b];
        }

        boolean goal(int[] at) {
            for (int b = 0; b < buttons; b++) {
                if (canBeRight(b) && at[b] != b) {
                    return false;
                }
            }
            return true;
        }

        int seconds(Act a) {
            return (a.does ? dos : undo)[a.button] + (a.button < tied ? tieSeconds : 0);
        }

        List<Act> acts(int[] at, boolean laws) {
            List<Act> all = new ArrayList<>();
            for (int b = 0; b < buttons; b++) {
                if (at[b] >= 0) {
                    all.add(new Act(false, b, at[b]));
                }
            }
            for (int b = 0; b < buttons; b++) {
                for (int h = 0; h < holes; h++) {
                    if (at[b] < 0 && fits(at, b, h)) {
                        all.add(new Act(true, b, h));
                    }
                }
            }
            all.removeIf(a -> laws && !lawful(behind(at, a)));
            return all;
        }

        int[] behind(int[] at, Act a) {
            int[] next = at.clone();
            next[a.button] = a.does ? a.hole : -1;
            return next;
        }

        int shown(int[] at, int second) {
            int sum = 0;
            for (Eye e : eyes) {
                for (int b = e.from; b <= e.to; b++) {
                    sum += e.second <= second && at[b] != b ? 1 : 0;
                }
            }
            return sum;
        }

        int seen(int b, int second) {
            int sum = 0;
            for (Eye e : eyes) {
                sum += e.from <= b && b <= e.to && e.second <= second ? 1 : 0;
            }
            return sum;
        }

        /** Of each row that can be: the least of seconds (or acts), and of these the fewest undoings. */
        Map<String, long[]> reach(int[] from, boolean laws, int most) {
            Map<String, long[]> best = new HashMap<>();
            record At(int[] row, long cost, long undone) {
            }
            PriorityQueue<At> queue = new PriorityQueue<>((x, y) -> x.cost != y.cost
                    ? Long.compare(x.cost, y.cost) : Long.compare(x.undone, y.undone));
            queue.add(new At(from, 0, 0));
            while (!queue.isEmpty()) {
                At here = queue.remove();
                if (best.putIfAbsent(Arrays.toString(here.row), new long[] {here.cost, here.undone}) != null) {
                    continue;
                }
                for (Act a : acts(here.row, laws)) {
                    long cost = here.cost + (laws ? seconds(a) : 1);
                    int[] next = behind(here.row, a);
                    if (cost <= most && !best.containsKey(Arrays.toString(next))) {
                        queue.add(new At(next, cost, here.undone + (a.does ? 0 : 1)));
                    }
                }
            }
            return best;
        }

        int[] rowOf(String text) {
            String[] parts = text.substring(1, text.length() - 1).split(", ");
            int[] at = new int[parts.length];
            for (int i = 0; i < at.length; i++) {
                at[i] = Integer.parseInt(parts[i]);
            }
            return at;
        }

        /** {seconds or acts, undoings} to a goal, or null. */
        long[] toGoal(int[] from, boolean laws) {
            long[] least = null;
            for (Map.Entry<String, long[]> e : reach(from, laws, 1000000).entrySet()) {
                if (goal(rowOf(e.getKey()))) {
                    long[] c = e.getValue();
                    if (least == null || c[0] < least[0] || c[0] == least[0] && c[1] < least[1]) {
                        least = c;
                    }
                }
            }
            return least;
        }

        /** The row of the soonest way, or null. */
        List<Act> soonestRow(int[] from) {
            List<Act> way = new ArrayList<>();
            int[] at = from;
            long[] left = toGoal(at, true);
            if (left == null) {
                return null;
            }
            long rest = left[0];
            while (rest > 0) {
                for (Act a : acts(at, true)) {
                    long[] then = toGoal(behind(at, a), true);
                    if (then != null && then[0] + seconds(a) == rest) {
                        way.add(a);
                        rest = then[0];
                        at = behind(at, a);
                        break;
                    }
                }
            }
            return way;
        }
    }

    interface Sum {
        long of(Map<String, Long> words);
    }

    record Clause(Sum sum, Sum test) {
    }

    static final class Reader {
        final String text;
        final List<Token> tokens = new ArrayList<>();
        int next;
        int parts;

        Reader(String text) {
            this.text = text;
            int i = 0;
            while (i < text.length()) {
                char c = text.charAt(i);
                int j = i + 1;
                if (c >= '0' && c <= '9') {
                    while (j < text.length() && text.charAt(j) >= '0' && text.charAt(j) <= '9') {
                        j++;
                    }
                } else if (c >= 'a' && c <= 'z') {
                    while (j < text.length() && text.charAt(j) >= 'a' && text.charAt(j) <= 'z') {
                        j++;
                    }
                } else if ((c == '<' || c == '>') && j < text.length() && text.charAt(j) == '=') {
                    j++;
                }
                if (c != ' ') {
                    tokens.add(new Token(text.substring(i, j), i));
                }
                i = j;
            }
            tokens.add(new Token("", text.length()));
        }

        Token here() {
            return tokens.get(next);
        }

        boolean at(String what) {
            return here().text.equals(what);
        }

        Fault cannot() {
            return new Fault(here().place, 0);
        }

        int number(int least, int most) {
            if (!here().isNumber()) {
                throw cannot();
            }
            String digits = here().text;
            if (digits.length() > 5 || Integer.parseInt(digits) < least || Integer.parseInt(digits) > most) {
                throw new Fault(here().place, 1);
            }
            next++;
            return Integer.parseInt(digits);
        }

        /** Behind a clause: true if another one must come. */
        boolean more() {
            if (at("")) {
                return false;
            }
            if (!at(";")) {
                throw cannot();
            }
            next++;
            return true;
        }

        void require(boolean holds, int place) {
            if (!holds) {
                throw new Fault(place, 1);
            }
        }

        Told lift() {
            List<String> names = List.of("row", "gone", "sewn", "sort", "takes", "in", "undo", "do", "tie",
                    "beside", "never", "worth", "eye");
            Told t = new Told();
            int clauses = 0;
            do {
                Token first = here();
                if (!names.contains(first.text)) {
                    throw cannot();
                }
                clauses++;
                boolean tooMany = clauses > 40 || first.text.equals("row") && clauses > 1
                        || !first.text.equals("row") && clauses == 1 || first.text.equals("tie") && t.tied >= 0
                        || first.text.equals("beside") && t.beside >= 0
                        || first.text.equals("eye") && t.eyes.size() == 6;
                if (tooMany) {
                    throw new Fault(first.place, 4);
                }
                next++;
                clause(t, first.text);
            } while (more());
            return t;
        }

        void clause(Told t, String name) {
            int place = here().place;
            switch (name) {
                case "row" -> {
                    t.buttons = number(1, 8);
                    t.holes = number(1, 8);
                    t.row = new int[t.buttons];
                    Arrays.fill(t.row, -1);
                }
                case "gone", "sort" -> {
                    int b = number(0, t.buttons - 1);
                    require(t.row[b] < 0, place);
                    if (name.equals("gone")) {
                        t.gone[b] = true;
                    } else {
                        t.sort[b] = number(0, 3);
                    }
                }
                case "sewn", "takes" -> {
                    int h = number(0, t.holes - 1);
                    require(Arrays.stream(t.row).noneMatch(x -> x == h), place);
                    if (name.equals("sewn")) {
                        t.sewn[h] = true;
                    } else {
                        t.takes[h] = number(0, 3);
                    }
                }
                case "in" -> {
                    int b = number(0, t.buttons - 1);
                    require(t.row[b] < 0, place);
                    int where = here().place;
                    int h = number(0, t.holes - 1);
                    require(t.fits(t.row, b, h), where);
                    t.row[b] = h;
                }
                case "undo" -> t.undo[number(0, t.buttons - 1)] = number(1, 20);
                case "do" -> t.dos[number(0, t.buttons - 1)] = number(1, 20);
                case "worth" -> t.worth[number(0, t.buttons - 1)] = number(0, 99);
                case "tie" -> {
                    t.tied = number(1, 8);
                    t.tieSeconds = number(1, 20);
                }
                case "beside" -> t.beside = number(1, 8);
                case "never" -> t.never[number(0, t.buttons - 1)] = true;
                default -> {
                    int from = number(0, t.buttons - 1);
                    int to = number(from, t.buttons - 1);
                    t.eyes.add(new Eye(from, to, number(0, 999)));
                }
            }
        }

        List<Clause> rule() {
            List<Clause> clauses = new ArrayList<>();
            do {
                if (!at("act")) {
                    throw cannot();
                }
                if (clauses.size() == 12) {
                    throw new Fault(here().place, 4);
                }
                next++;
                Sum sum = sum();
                Sum test = null;
                if (at("if")) {
                    next++;
                    test = test(0);
                }
                clauses.add(new Clause(sum, test));
            } while (more());
            return clauses;
        }

        void part(int place) {
            if (++parts > 60) {
                throw new Fault(place, 3);
            }
        }

        Sum sum() {
            Sum left = term();
            while (at("+") || at("-")) {
                boolean plus = at("+");
                next++;
                Sum a = left;
                Sum b = term();
                left = w -> plus ? a.of(w) + b.of(w) : a.of(w) - b.of(w);
            }
            return left;
        }

        Sum term() {
            Sum left = value();
            while (at("*") || at("/") || at("%")) {
                String sign = here().text;
                next++;
                Sum a = left;
                Sum b = value();
                left = w -> {
                    long x = a.of(w);
                    long y = b.of(w);
                    if (sign.equals("*")) {
                        return x * y;
                    }
                    return y == 0 ? 0 : sign.equals("/") ? x / y : x % y;
                };
            }
            return left;
        }

        Sum value() {
            Token t = here();
            if (t.isNumber()) {
                long n = number(0, 99999);
                part(t.place);
                return w -> n;
            }
            if (!List.of("done", "button", "hole", "right", "open", "wrong", "run", "after", "seconds", "clock",
                    "seen", "worth").contains(t.text)) {
                throw cannot();
            }
            part(t.place);
            next++;
            return w -> w.get(t.text);
        }

        Sum test(int depth) {
            Sum left = all(depth);
            while (at("or")) {
                next++;
                Sum a = left;
                Sum b = all(depth);
                left = w -> a.of(w) != 0 || b.of(w) != 0 ? 1 : 0;
            }
            return left;
        }

        Sum all(int depth) {
            Sum left = fact(depth);
            while (at("and")) {
                next++;
                Sum a = left;
                Sum b = fact(depth);
                left = w -> a.of(w) != 0 && b.of(w) != 0 ? 1 : 0;
            }
            return left;
        }

        Sum fact(int depth) {
            if (at("not") || at("[")) {
                if (depth == 10) {
                    throw new Fault(here().place, 2);
                }
                boolean not = at("not");
                next++;
                Sum inner = not ? fact(depth + 1) : test(depth + 1);
                if (!not) {
                    if (!at("]")) {
                        throw cannot();
                    }
                    next++;
                }
                return not ? w -> inner.of(w) == 0 ? 1 : 0 : inner;
            }
            Sum a = sum();
            String sign = here().text;
            if (!List.of("<", "<=", "=", ">=", ">").contains(sign)) {
                throw cannot();
            }
            part(here().place);
            next++;
            Sum b = sum();
            return w -> {
                int c = Long.compare(a.of(w), b.of(w));
                return switch (sign) {
                    case "<" -> c < 0;
                    case "<=" -> c <= 0;
                    case "=" -> c == 0;
                    case ">=" -> c >= 0;
                    default -> c > 0;
                } ? 1 : 0;
            };
        }
    }

    /** What an image keeps. */
    static final class State {
        Told told;
        int[] at;
        int clock;
        int x;
        List<int[]> creases = new ArrayList<>();
        int[] seats = {-1, -1, -1, -1, -1, -1, -1, -1, -1, -1};

        State copy() {
            State s = new State();
            s.told = told;
            s.at = at == null ? null : at.clone();
            s.clock = clock;
            s.x = x;
            s.creases = new ArrayList<>(creases);
            s.seats = seats.clone();
            return s;
        }
    }

    final StringBuilder tape = new StringBuilder();
    final List<List<Clause>> rules = new ArrayList<>();
    State now = new State();
    final State[] images = new State[4];
    final List<State> past = new ArrayList<>();

    int feed(int... numbers) {
        if (tape.length() > 380) {
            return -1;
        }
        for (int n : numbers) {
            for (int i = 3; i >= 0; i--) {
                tape.append((char) (n >>> 8 * i & 255));
            }
        }
        return tape.length();
    }

    int end(int n) {
        if (n < 0 || n > tape.length()) {
            return -1;
        }
        tape.setLength(n);
        return n;
    }

    int lift() {
        try {
            Told told = new Reader(tape.toString()).lift();
            tape.setLength(0);
            now.told = told;
            now.at = told.row.clone();
            now.clock = 0;
            now.creases.clear();
            past.clear();
            return told.buttons;
        } catch (Fault f) {
            return f.answer();
        }
    }

    int rule() {
        if (rules.size() == 6) {
            return -1;
        }
        String text = tape.toString();
        tape.setLength(0);
        try {
            rules.add(new Reader(text).rule());
            return rules.size() - 1;
        } catch (Fault f) {
            return f.answer();
        }
    }

    boolean isButton(int b) {
        return now.told != null && b >= 0 && b < now.told.buttons;
    }

    boolean isHole(int h) {
        return now.told != null && h >= 0 && h < now.told.holes;
    }

    int button(int b, int what) {
        if (!isButton(b)) {
            return -2;
        }
        Told t = now.told;
        return switch (what) {
            case 0 -> now.at[b];
            case 1 -> t.sort[b];
            case 2 -> t.gone[b] ? 1 : 0;
            case 3 -> t.seconds(new Act(false, b, 0));
            case 4 -> t.seconds(new Act(true, b, 0));
            case 5 -> t.worth[b];
            case 6 -> t.seen(b, now.clock);
            case 7 -> t.canBeRight(b) ? 1 : 0;
            default -> -2;
        };
    }

    int hole(int h, int what) {
        if (!isHole(h) || what < 0 || what > 2) {
            return -2;
        }
        if (what == 0) {
            for (int b = 0; b < now.at.length; b++) {
                if (now.at[b] == h) {
                    return b;
                }
            }
            return -1;
        }
        return what == 1 ? now.told.takes[h] : now.told.sewn[h] ? 1 : 0;
    }

    int row(int what) {
        if (now.told == null) {
            return -1;
        }
        int open = 0;
        int right = 0;
        for (int b = 0; b < now.at.length; b++) {
            open += now.at[b] < 0 ? 1 : 0;
            right += now.at[b] == b ? 1 : 0;
        }
        return switch (what) {
            case 0 -> open;
            case 1 -> now.at.length - open - right;
            case 2 -> right;
            case 3 -> now.told.run(now.at);
            case 4 -> now.told.lawful(now.at) ? 1 : 0;
            case 5 -> now.told.goal(now.at) ? 1 : 0;
            default -> -1;
        };
    }

    int shown(int second) {
        return now.told == null || second < 0 || second > 9999 ? -1 : now.told.shown(now.at, second);
    }

    private int byHand(Act a) {
        if (now.told == null || !now.told.acts(now.at, true).contains(a)
                || now.clock + now.told.seconds(a) > 9999) {
            return -1;
        }
        keep();
        now.clock += now.told.seconds(a);
        now.at = now.told.behind(now.at, a);
        return now.clock;
    }

    private void keep() {
        past.add(now.copy());
        if (past.size() > 20) {
            past.remove(0);
        }
    }

    int unfasten(int b) {
        return isButton(b) ? byHand(new Act(false, b, now.at[b])) : -1;
    }

    int fasten(int b, int h) {
        return isButton(b) && isHole(h) ? byHand(new Act(true, b, h)) : -1;
    }

    int waits(int n) {
        if (now.told == null || n < 1 || n > 999 || now.clock + n > 9999) {
            return -1;
        }
        keep();
        now.clock += n;
        return now.clock;
    }

    int takeBack() {
        if (past.isEmpty()) {
            return -1;
        }
        State was = past.remove(past.size() - 1);
        now.at = was.at;
        now.clock = was.clock;
        return past.size();
    }

    int run(int rule, int n) {
        if (now.told == null || rule < 0 || rule >= rules.size() || n < 1 || n > 60) {
            return -1;
        }
        for (int i = 0; i < n; i++) {
            Act best = null;
            long most = 0;
            for (Act a : now.told.acts(now.at, true)) {
                long sum = sumOf(rules.get(rule), words(a));
                if (sum > most) {
                    most = sum;
                    best = a;
                }
            }
            if (best == null || now.clock + now.told.seconds(best) > 9999) {
                return i;
            }
            now.clock += now.told.seconds(best);
            now.at = now.told.behind(now.at, best);
            past.clear();
        }
        return n;
    }

    private static long sumOf(List<Clause> rule, Map<String, Long> words) {
        for (Clause c : rule) {
            if (c.test == null || c.test.of(words) != 0) {
                return c.sum.of(words);
            }
        }
        return 0;
    }

    private Map<String, Long> words(Act a) {
        Map<String, Long> w = new TreeMap<>();
        w.put("done", a.does ? 1L : 0L);
        w.put("button", (long) a.button);
        w.put("hole", (long) a.hole);
        w.put("right", a.button == a.hole ? 1L : 0L);
        w.put("open", (long) row(0));
        w.put("wrong", (long) row(1));
        w.put("run", (long) row(3));
        w.put("after", (long) now.told.run(now.told.behind(now.at, a)));
        w.put("seconds", (long) now.told.seconds(a));
        w.put("clock", (long) now.clock);
        w.put("seen", (long) now.told.seen(a.button, now.clock));
        w.put("worth", (long) now.told.worth[a.button]);
        return w;
    }

    int may() {
        return now.told == null ? -1 : now.told.acts(now.at, true).size();
    }

    int act(int k, int what) {
        return k < 0 || k >= may() || what < 0 || what > 2 ? -1 : now.told.acts(now.at, true).get(k).part(what);
    }

    int fewest(int what) {
        return now.told == null || what < 0 || what > 1 ? -1 : (int) now.told.toGoal(now.at, false)[what];
    }

    int soonest() {
        if (now.told == null) {
            return -1;
        }
        long[] left = now.told.toGoal(now.at, true);
        return left == null ? -2 : (int) left[0];
    }

    int step(int k, int what) {
        if (now.told == null || k < 0 || what < 0 || what > 2) {
            return -1;
        }
        List<Act> way = now.told.soonestRow(now.at);
        return way == null || k >= way.size() ? -2 : way.get(k).part(what);
    }

    int floor(int seconds, int what) {
        if (now.told == null || seconds < 0 || seconds > 300 || what < 0 || what > 2) {
            return -1;
        }
        int[] best = null;
        for (Map.Entry<String, long[]> e : now.told.reach(now.at, true, seconds).entrySet()) {
            int[] at = now.told.rowOf(e.getKey());
            int worth = 0;
            for (int b = 0; b < at.length; b++) {
                worth += at[b] == b ? now.told.worth[b] : 0;
            }
            int[] here = {-worth, now.told.shown(at, now.clock + seconds), (int) e.getValue()[0]};
            if (best == null || Arrays.compare(here, best) < 0) {
                best = here;
            }
        }
        return what == 0 ? -best[0] : best[what];
    }

    int goes(int n) {
        if (now.told == null || n < 1 || n > 8) {
            return -1;
        }
        int sum = 0;
        int b = 0;
        while (b < now.at.length) {
            int from = b;
            while (b < now.at.length && now.at[b] >= 0 && now.at[b] != b
                    && (b == from || now.at[b] == now.at[b - 1] + 1)) {
                b++;
            }
            sum += (int) Math.ceil((b - from) / (double) n);
            b = b == from ? b + 1 : b;
        }
        return sum;
    }

    int child(int a, int b, int part) {
        if (now.told == null || a < 1 || a > 9 || b < 1 || b > 9 || a > b || part < 0 || part > 1) {
            return -1;
        }
        List<Act> way = now.told.soonestRow(now.at);
        if (way == null) {
            return -2;
        }
        int above = 0;
        for (Act act : way) {
            above += now.told.seconds(act) * (act.does ? b : a);
        }
        int below = a;
        for (int d = 9; d >= 2; d--) {
            if (above % d == 0 && below % d == 0) {
                above /= d;
                below /= d;
            }
        }
        return part == 0 ? above : below;
    }

    int spare(int b, int what) {
        if (!isButton(b) || !now.told.gone[b] || what < 0 || what > 1) {
            return -1;
        }
        Told t = now.told;
        for (int worth = 0; worth < t.worth[b]; worth++) {
            for (int o = t.buttons - 1; o >= 0; o--) {
                if (!t.gone[o] && t.sort[o] == t.sort[b] && t.worth[o] == worth) {
                    return what == 0 ? o : t.worth[b] - worth;
                }
            }
        }
        return -2;
    }

    int crease(int sort, int b, int h) {
        if (sort == -1) {
            now.creases.clear();
            return 0;
        }
        boolean told = switch (sort) {
            case 0, 1 -> isButton(b) && h == 0;
            case 2, 3 -> isHole(h) && b == 0;
            case 4, 5 -> isButton(b) && isHole(h);
            default -> false;
        };
        if (!told || now.creases.size() == 10) {
            return -2;
        }
        now.creases.add(new int[] {sort, b, h});
        return now.creases.size();
    }

    int ways(int what) {
        if (now.told == null || what < 0 || what > 2) {
            return -1;
        }
        int[] sum = {0, 255, 255};
        int[] at = new int[now.told.buttons];
        allRows(at, 0, 0, sum);
        int mask = (1 << at.length) - 1;
        return sum[0] == 0 ? 0 : what == 0 ? sum[0] : sum[what] & mask;
    }

    private void allRows(int[] at, int b, int from, int[] sum) {
        if (b == at.length) {
            if (now.creases.stream().allMatch(c -> holds(c, at))) {
                sum[0]++;
                for (int i = 0; i < at.length; i++) {
                    sum[at[i] < 0 ? 1 : 2] &= ~(1 << i);
                }
            }
            return;
        }
        at[b] = -1;
        allRows(at, b + 1, from, sum);
        for (int h = from; h < now.told.holes; h++) {
            if (now.told.sort[b] == now.told.takes[h]) {
                at[b] = h;
                allRows(at, b + 1, h + 1, sum);
            }
        }
        at[b] = -1;
    }

    private static boolean holds(int[] crease, int[] at) {
        boolean held = Arrays.stream(at).anyMatch(h -> h == crease[2]);
        return switch (crease[0]) {
            case 0 -> at[crease[1]] >= 0;
            case 1 -> at[crease[1]] < 0;
            case 2 -> held;
            case 3 -> !held;
            case 4 -> at[crease[1]] == crease[2];
            default -> at[crease[1]] != crease[2];
        };
    }

    int seat(int seat, int who) {
        if (seat < 0 || seat > 9 || who < -1 || who > 9) {
            return -2;
        }
        int was = now.seats[seat];
        for (int i = 0; i < 10; i++) {
            if (who >= 0 && now.seats[i] == who) {
                now.seats[i] = -1;
            }
        }
        now.seats[seat] = who;
        return was;
    }

    int moves(int n) {
        if (n < 1 || n > 10) {
            return -1;
        }
        int[] at = Arrays.copyOf(now.seats, n);
        for (int who : at) {
            if (who >= n) {
                return -1;
            }
        }
        return n <= 6 ? searchedMoves(at) : greedyMoves(at);
    }

    private static boolean seated(int[] at) {
        for (int i = 0; i < at.length; i++) {
            if (at[i] >= 0 && at[i] != i) {
                return false;
            }
        }
        return true;
    }

    private static int searchedMoves(int[] from) {
        Map<String, Boolean> known = new HashMap<>();
        List<int[]> wave = new ArrayList<>();
        wave.add(from);
        for (int moves = 0; !wave.isEmpty(); moves++) {
            List<int[]> next = new ArrayList<>();
            for (int[] at : wave) {
                if (seated(at)) {
                    return moves;
                }
                for (int i = 0; i < at.length; i++) {
                    for (int j = 0; j < at.length; j++) {
                        if (at[i] >= 0 && at[j] < 0) {
                            int[] then = at.clone();
                            then[j] = at[i];
                            then[i] = -1;
                            if (known.put(Arrays.toString(then), true) == null) {
                                next.add(then);
                            }
                        }
                    }
                }
            }
            wave = next;
        }
        return -2;
    }

    /** Somebody goes home while one can; else somebody who is elsewhere makes room. */
    private static int greedyMoves(int[] at) {
        int moves = 0;
        while (!seated(at)) {
            int empty = -1;
            int elsewhere = -1;
            int homing = -1;
            for (int i = 0; i < at.length; i++) {
                if (at[i] < 0) {
                    empty = i;
                } else if (at[i] != i) {
                    elsewhere = i;
                    homing = at[at[i]] < 0 ? i : homing;
                }
            }
            if (empty < 0) {
                return -2;
            }
            int from = homing >= 0 ? homing : elsewhere;
            int to = homing >= 0 ? at[homing] : empty;
            at[to] = at[from];
            at[from] = -1;
            moves++;
        }
        return moves;
    }

    int seed(int x) {
        if (x < 0) {
            return -1;
        }
        int was = now.x;
        now.x = x;
        return was;
    }

    int dressed(int m, int n, int what) {
        if (now.told == null || m < 1 || m > 20 || n < 1 || n > 60 || what < 0 || what > 2) {
            return -1;
        }
        long x = now.x;
        int[] sums = new int[3];
        for (int i = 0; i < m; i++) {
            int[] at = now.at;
            for (int j = 0; j < n; j++) {
                List<Act> acts = now.told.acts(at, true);
                if (!acts.isEmpty()) {
                    x = (x * 1103515245L + 12345L) % 2147483648L;
                    Act a = acts.get((int) (x / 65536 % acts.size()));
                    sums[1] += now.told.seconds(a);
                    at = now.told.behind(at, a);
                }
            }
            for (int b = 0; b < at.length; b++) {
                sums[0] += at[b] == b ? 1 : 0;
            }
            sums[2] += now.told.goal(at) ? 1 : 0;
        }
        return sums[what];
    }

    int count(int what) {
        Told t = now.told;
        int never = 0;
        for (int b = 0; b < 8; b++) {
            never |= t != null && t.never[b] ? 1 << b : 0;
        }
        return switch (what) {
            case 0 -> t == null ? 0 : t.buttons;
            case 1 -> t == null ? 0 : t.holes;
            case 2 -> rules.size();
            case 3 -> t == null ? 0 : t.eyes.size();
            case 4 -> now.clock;
            case 5 -> past.size();
            case 6 -> t == null ? -1 : t.beside < 0 ? 8 : t.beside;
            case 7 -> never;
            case 8 -> now.creases.size();
            case 9 -> (int) Arrays.stream(now.seats).filter(s -> s < 0).count();
            case 10 -> now.x;
            case 11 -> tape.length();
            default -> -1;
        };
    }

    int image(int k) {
        if (k < 0 || k > 3) {
            return -1;
        }
        images[k] = now.copy();
        return now.clock;
    }

    int back(int k) {
        if (k < 0 || k > 3 || images[k] == null) {
            return -1;
        }
        now = images[k].copy();
        past.clear();
        return now.clock;
    }
}
