import java.lang.reflect.Method;
import java.nio.charset.StandardCharsets;
import java.util.ArrayList;
import java.util.Arrays;
import java.util.HashMap;
import java.util.List;
import java.util.Map;
import java.util.Random;

/**
 * Random runs of calls, the same each time, on the class and on the slow model: all answers must be one.
 * Arguments: how many runs, and from which number on.
 */
public final class ModelTest {
    private static final Map<String, Method> OURS = methods(WrongHole.class);
    private static final Map<String, Method> MODELS = methods(Model.class);
    private static final String[] SHARES = {
        "button 8", "hole 5", "row 6", "shown 5", "unfasten 22", "fasten 30", "waits 5", "takeBack 7", "run 8",
        "may 6", "act 8", "fewest 4", "soonest 4", "step 6", "floor 5", "goes 6", "child 4", "spare 6",
        "crease 10", "ways 8", "seat 16", "moves 8", "seed 4", "dressed 5", "count 14", "image 4", "back 4",
        "end 1", "feed 1", "lift 1", "rule 1"};

    private final Random random;
    private final WrongHole ours = new WrongHole();
    private final Model model = new Model();
    private final List<String> log = new ArrayList<>();
    private final boolean large;
    private int calls;

    private ModelTest(int seed) {
        random = new Random(seed);
        large = seed % 40 == 0;
    }

    private static Map<String, Method> methods(Class<?> of) {
        Map<String, Method> all = new HashMap<>();
        for (Method m : of.getDeclaredMethods()) {
            m.setAccessible(true);
            all.put(m.getName(), m);
        }
        return all;
    }

    public static void main(String[] args) throws Exception {
        int runs = args.length > 0 ? Integer.parseInt(args[0]) : 600;
        int first = args.length > 1 ? Integer.parseInt(args[1]) : 0;
        int failed = 0;
        for (int seed = first; seed < first + runs; seed++) {
            if (!new ModelTest(seed).passes(seed)) {
                failed++;
            }
            if (failed > 5) {
                break;
            }
        }
        System.out.println((runs - failed) + " passed, " + failed + " failed");
        if (failed > 0) {
            System.exit(1);
        }
    }

    private boolean call(String name, int... args) throws Exception {
        Object[] boxed = Arrays.stream(args).boxed().toArray();
        calls++;
        int got = (Integer) OURS.get(name).invoke(ours, boxed);
        int want = name.equals("feed") ? model.feed(args) : (Integer) MODELS.get(name).invoke(model, boxed);
        log.add(name + Arrays.toString(args) + " = " + got);
        if (got != want) {
            log.forEach(System.out::println);
            System.out.println("the last is due to be " + want);
        }
        return got == want;
    }

    private boolean tell(String text, String method) throws Exception {
        log.add("tape: " + text);
        byte[] bytes = text.getBytes(StandardCharsets.ISO_8859_1);
        boolean same = call("end", 0);
        for (int[] f : Due.fives(bytes)) {
            same = same && call("feed", f);
        }
        return same && call("end", Math.min(bytes.length, 400)) && call(method);
    }

    private boolean passes(int seed) throws Exception {
        boolean same = true;
        for (int turn = 0; same && turn < 160 && calls < 480; turn++) {
            if (turn % 40 == 0 || random.nextInt(60) == 0) {
                same = tell(mutated(liftText()), "lift");
            } else if (turn % 17 == 1) {
                same = tell(mutated(ruleText()), "rule");
            } else {
                same = oneCall();
            }
        }
        if (!same) {
            System.out.println("run " + seed);
        }
        return same;
    }

    private boolean oneCall() throws Exception {
        int sum = 0;
        for (String s : SHARES) {
            sum += Integer.parseInt(s.split(" ")[1]);
        }
        int pick = random.nextInt(sum);
        for (String s : SHARES) {
            pick -= Integer.parseInt(s.split(" ")[1]);
            if (pick < 0) {
                return callOf(s.split(" ")[0]);
            }
        }
        return true;
    }

    private int num(int most) {
        return random.nextInt(12) == 0 ? random.nextInt(most + 40) - 20 : random.nextInt(most + 1);
    }

    private boolean callOf(String name) throws Exception {
        return switch (name) {
            case "spare" -> call(name, goneOne(), num(1));
            case "button" -> call(name, num(8), num(8));
            case "hole" -> call(name, num(8), num(3));
            case "row" -> call(name, num(6));
            case "shown" -> call(name, random.nextInt(9) == 0 ? random.nextInt(20000) - 5000 : num(40));
            case "unfasten", "fasten" -> random.nextInt(4) > 0 && model.may() > 0 ? anAct()
                    : name.equals("fasten") ? call(name, num(7), num(7)) : call(name, num(6));
            case "waits" -> call(name, random.nextInt(3) == 0 || model.count(4) > 3000 ? num(1000) : num(10));
            case "run" -> call(name, num(5), random.nextInt(9) == 0 ? random.nextInt(64) - 1 : 1 + num(7));
            case "act" -> call(name, num(12), num(2));
            case "fewest" -> call(name, num(1));
            case "step", "child" -> large && model.count(0) + model.count(1) > 11 ? true
                    : name.equals("step") ? call(name, num(9), num(2)) : call(name, num(9), num(9), num(1));
            case "floor" -> call(name, random.nextInt(4) == 0 ? num(300) : num(25), num(2));
            case "goes" -> call(name, num(8));
            case "crease" -> crease();
            case "ways" -> call(name, num(2));
            case "seat" -> call(name, num(9), num(10) - 1);
            case "moves" -> call(name, num(10));
            case "seed" -> call(name, random.nextInt());
            case "dressed" -> call(name, num(21), random.nextInt(3) == 0 ? num(61) : num(12), num(2));
            case "count" -> call(name, num(12));
            case "image", "back" -> call(name, num(3));
            case "end" -> call(name, num(400));
            case "feed" -> call(name, random.nextInt(), random.nextInt(), 1633907744, 824207718, random.nextInt());
            default -> call(name);
        };
    }

    private int goneOne() {
        int button = num(6);
        for (int i = 0; i < 8; i++) {
            button = model.button(i, 2) == 1 && random.nextInt(3) > 0 ? i : button;
        }
        return button;
    }

    private boolean anAct() throws Exception {
        int k = random.nextInt(model.may());
        boolean does = model.act(k, 0) == 1;
        return does ? call("fasten", model.act(k, 1), model.act(k, 2)) : call("unfasten", model.act(k, 1));
    }

    private boolean crease() throws Exception {
        int sort = num(6) - 1;
        int button = sort == 2 || sort == 3 ? num(10) / 9 : num(5);
        int hole = sort == 0 || sort == 1 ? num(10) / 9 : num(5);
        return call("crease", sort, button, hole);
    }

    private String blank() {
        return " ".repeat(random.nextInt(12) == 0 ? random.nextInt(3) : 0);
    }

    private String mutated(String text) {
        StringBuilder s = new StringBuilder(text);
        int changes = random.nextInt(3) > 0 ? 0 : 1 + random.nextInt(2);
        String signs = " ;0123456789[]<>=+-*/%abenotrdifwslk\0\u00e9A";
        for (int i = 0; i < changes && s.length() > 0; i++) {
            int at = random.nextInt(s.length());
            char c = signs.charAt(random.nextInt(signs.length()));
            switch (random.nextInt(4)) {
                case 0 -> s.setCharAt(at, c);
                case 1 -> s.insert(at, c);
                case 2 -> s.deleteCharAt(at);
                default -> s.setLength(at);
            }
        }
        return s.length() > 400 ? s.substring(0, 400) : s.toString();
    }

    private String liftText() {
        int most = large ? 8 : random.nextInt(6) == 0 ? 7 : 5;
        int buttons = 1 + random.nextInt(large ? 7 : most);
        int holes = 1 + random.nextInt(Math.min(8, large ? 7 : most));
        StringBuilder s = new StringBuilder(blank() + "row " + blank() + buttons + " " + holes + blank());
        int sorts = random.nextInt(3) == 0 ? 3 : random.nextInt(2);
        int clauses = random.nextInt(16);
        for (int i = 0; i < clauses; i++) {
            int b = random.nextInt(buttons);
            int h = random.nextInt(holes);
            String clause = switch (random.nextInt(27)) {
                case 0 -> "gone " + b;
                case 1 -> "sewn " + h;
                case 2, 3 -> "sort " + b + " " + random.nextInt(sorts + 1);
                case 4, 5 -> "takes " + h + " " + random.nextInt(sorts + 1);
                case 6, 7 -> "undo " + b + " " + (1 + random.nextInt(random.nextBoolean() ? 3 : 20));
                case 8, 9 -> "do " + b + " " + (1 + random.nextInt(random.nextBoolean() ? 3 : 20));
                case 10 -> s.indexOf("tie") > 0 ? "" : "tie " + (1 + random.nextInt(4)) + " " + (1 + random.nextInt(9));
                case 11, 12 -> s.indexOf("beside") > 0 ? "" : "beside " + (1 + random.nextInt(4));
                case 13 -> "never " + b;
                case 14, 15, 16 -> "worth " + b + " " + random.nextInt(random.nextBoolean() ? 4 : 100);
                case 17, 18, 19 -> "eye " + b + " " + (b + random.nextInt(buttons - b)) + " " + random.nextInt(20);
                default -> "in " + b + " " + Math.min(holes - 1, b + random.nextInt(2));
            };
            String with = s + blank() + ";" + blank() + clause + blank();
            if (!clause.isEmpty() && (random.nextInt(60) == 0 || sound(with))) {
                s = new StringBuilder(with);
            }
        }
        return s.toString();
    }

    private static boolean sound(String text) {
        try {
            new Model.Reader(text).lift();
            return true;
        } catch (Model.Fault f) {
            return false;
        }
    }

    private String ruleText() {
        int clauses = 1 + random.nextInt(random.nextInt(8) == 0 ? 13 : 3);
        StringBuilder s = new StringBuilder();
        for (int i = 0; i < clauses; i++) {
            s.append(i > 0 ? ";" : "").append(blank()).append("act ").append(sum());
            if (random.nextInt(3) > 0) {
                s.append(" if ").append(test(0));
            }
        }
        return s.toString();
    }

    private String pick(String... of) {
        return of[random.nextInt(of.length)];
    }

    private String value() {
        return random.nextBoolean() ? String.valueOf(random.nextInt(random.nextInt(9) == 0 ? 100000 : 12))
                : pick("done", "button", "hole", "right", "open", "wrong", "run", "after", "seconds", "clock",
                        "seen", "worth");
    }

    private String sum() {
        StringBuilder s = new StringBuilder(value());
        while (random.nextInt(5) < 2) {
            s.append(blank()).append(pick("+", "-", "*", "/", "%")).append(blank()).append(value());
        }
        return s.toString();
    }

    private String test(int depth) {
        StringBuilder s = new StringBuilder(fact(depth));
        while (random.nextInt(3) == 0) {
            s.append(pick(" or ", " and ")).append(fact(depth));
        }
        return s.toString();
    }

    private String fact(int depth) {
        int kind = random.nextInt(10);
        int deeper = random.nextInt(30) == 0 ? 11 : 1;
        if (kind < 2 && depth < 12) {
            return pick("not ", "not [").equals("not ") ? "not ".repeat(deeper) + fact(depth + deeper)
                    : "not [" + test(depth + 2) + "]";
        }
        if (kind < 4 && depth < 12) {
            return "[".repeat(deeper) + test(depth + deeper) + "]".repeat(deeper);
        }
        return sum() + blank() + pick("<", "<=", "=", ">=", ">") + blank() + sum();
    }
}
