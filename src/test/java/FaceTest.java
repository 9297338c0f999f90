import java.lang.reflect.Constructor;
import java.lang.reflect.Field;
import java.lang.reflect.Method;
import java.lang.reflect.Modifier;
import java.nio.file.Files;
import java.nio.file.Path;
import java.util.List;
import java.util.Map;
import java.util.TreeMap;
import java.util.TreeSet;
import java.util.regex.Pattern;

/** The public face of the document and what of ../shared/LANGUAGE.md can be seen from outside or in the text. */
public final class FaceTest {
    private static final Due DUE = new Due();
    private static final Path SOURCE = Path.of("src/main/java/WrongHole.java");

    public static void main(String[] args) throws Exception {
        face();
        classesInside();
        text();
        methodLengths();
        DUE.close();
    }

    private static Map<String, Integer> promised() {
        Map<String, Integer> all = new TreeMap<>();
        String[] byCount = {"lift rule takeBack may soonest",
            "end row shown unfasten waits fewest goes ways moves seed count image back",
            "button hole fasten run act step floor spare seat", "child crease dressed", "", "feed"};
        for (int n = 0; n < byCount.length; n++) {
            for (String name : byCount[n].split(" ")) {
                if (!name.isEmpty()) {
                    all.put(name, n);
                }
            }
        }
        return all;
    }

    private static void face() {
        DUE.is("public and final", Modifier.PUBLIC | Modifier.FINAL, WrongHole.class.getModifiers());
        Map<String, Integer> found = new TreeMap<>();
        for (Method m : WrongHole.class.getDeclaredMethods()) {
            boolean shut = Modifier.isPrivate(m.getModifiers());
            if (!shut) {
                found.put(m.getName(), m.getParameterCount());
                DUE.is(m + " is public alone", Modifier.PUBLIC, m.getModifiers());
                DUE.is(m + " answers int", 1, m.getReturnType() == int.class ? 1 : 0);
                for (Class<?> c : m.getParameterTypes()) {
                    DUE.is(m + " takes int", 1, c == int.class ? 1 : 0);
                }
            }
            DUE.is(m + " has a name of its own", shut ? 0 : 1, promised().containsKey(m.getName()) ? 1 : 0);
        }
        DUE.is("31 methods as promised: " + found, 1, found.equals(promised()) && found.size() == 31 ? 1 : 0);
        for (Constructor<?> c : WrongHole.class.getDeclaredConstructors()) {
            DUE.is("constructor", Modifier.PUBLIC, c.getModifiers() + c.getParameterCount());
        }
        for (Field f : WrongHole.class.getDeclaredFields()) {
            boolean constant = f.getName().equals("NONE");
            DUE.is(f + " is private", constant ? 0 : 1, Modifier.isPrivate(f.getModifiers()) ? 1 : 0);
            DUE.is(f + " is no state of all", 1,
                    !Modifier.isStatic(f.getModifiers()) || Modifier.isFinal(f.getModifiers()) ? 1 : 0);
        }
        DUE.is("NONE", -1, WrongHole.NONE);
    }

    private static void classesInside() {
        Class<?>[] inside = WrongHole.class.getDeclaredClasses();
        DUE.is("at most twelve classes", 1, inside.length <= 11 ? 1 : 0);
        for (Class<?> c : inside) {
            DUE.is(c + " is static", 1, Modifier.isStatic(c.getModifiers()) ? 1 : 0);
            int fields = 0;
            for (Field f : c.getDeclaredFields()) {
                boolean constant = Modifier.isStatic(f.getModifiers());
                fields += constant ? 0 : 1;
                DUE.is(f + " is no state of all", 1, !constant || Modifier.isFinal(f.getModifiers()) ? 1 : 0);
            }
            DUE.is(c + " has at most twenty fields", 1, fields <= 20 ? 1 : 0);
            for (Method m : c.getDeclaredMethods()) {
                DUE.is(m + " has a name of its own", 0, promised().containsKey(m.getName()) ? 1 : 0);
                DUE.is(m + " takes at most seven", 1, m.getParameterCount() <= 7 ? 1 : 0);
            }
        }
    }

    private static void text() throws Exception {
        String source = Files.readString(SOURCE);
        for (int i = 0; i < source.length(); i++) {
            char c = source.charAt(i);
            DUE.is("sign at " + i, 1, c == '\n' || c >= 32 && c < 127 ? 1 : 0);
        }
        String code = source.replaceAll("/\\*(?s:.*?)\\*/", "").replaceAll("//.*", "");
        String[] barred = {"\\b(throw|throws|try|catch|finally|synchronized|assert|package|double|float|Object)\\b",
            "->", "::", "\\bwhile\\s*\\(\\s*true", "for\\s*\\(\\s*;;", "\"\\s*\\+|\\+\\s*\"", "Exact\\(",
            "\\.(hashCode|toString|equals|get|remove)\\(", "\\bstatic\\s*\\{"};
        for (String b : barred) {
            DUE.is("no " + b, 0, Pattern.compile(b).matcher(code).find() ? 1 : 0);
        }
        TreeSet<String> imports = new TreeSet<>();
        TreeSet<String> library = new TreeSet<>();
        Pattern.compile("import (.*);").matcher(code).results().forEach(r -> imports.add(r.group(1)));
        Pattern.compile("\\b(?:Integer|Long|Math|Arrays|System)\\.\\w+").matcher(code).results()
                .forEach(r -> library.add(r.group()));
        DUE.is("imports " + imports, 1, List.of("java.util.Arrays").containsAll(imports) ? 1 : 0);
        DUE.is("library " + library, 1, List.of("Integer.bitCount", "Math.min", "Math.max", "Arrays.fill",
                "Arrays.copyOf", "System.arraycopy").containsAll(library) ? 1 : 0);
    }

    private static void methodLengths() throws Exception {
        int from = -1;
        int line = 0;
        Pattern head = Pattern.compile("^ {4}(?: {4})?(?:public|private|static|[a-z]\\w*|[A-Z]\\w*)\\b.*\\(.*\\{$");
        for (String s : Files.readAllLines(SOURCE)) {
            line++;
            DUE.is("line " + line + " is at most 120 long", 1, s.length() <= 120 ? 1 : 0);
            if (head.matcher(s).find()) {
                from = line;
            } else if (from > 0 && (s.equals("    }") || s.equals("        }"))) {
                DUE.is("the method at line " + from + " is short", 1, line - from <= 60 ? 1 : 0);
                from = -1;
            }
        }
    }
}
