import java.io.IOException;
import java.lang.reflect.Constructor;
import java.lang.reflect.Field;
import java.lang.reflect.Method;
import java.lang.reflect.Modifier;
import java.nio.file.Files;
import java.nio.file.Path;
import java.util.ArrayList;
import java.util.Arrays;
import java.util.List;
import java.util.Map;
import java.util.Set;
import java.util.TreeMap;
import java.util.TreeSet;
import java.util.regex.Matcher;
import java.util.regex.Pattern;

/** Those rules of LANGUAGE.md that can be looked up in the class and in its text. */
public final class LanguageTest {
    private static final Path SOURCE = Path.of("src/main/java/LinkTree.java");
    private static final String[] FACE = {
        "int feed(int)", "int end(int)", "int text()", "int fault()", "int rule(int)", "int node(int,int)",
        "int entry(int,int,int)", "int client(int,int)", "int there(int)", "int begin(int,int,int)", "int step(int)",
        "int go(int,int)", "int drop(int)", "int room(int)", "int rows(int,int)", "int answers(int,int,int)",
        "int first(int,int,int)", "long chance(int,int,int,int)", "int check()", "int leaf(int)", "int keep(int)",
        "int back(int)", "int sheet(int,int,int)", "int lay(int,int,int)", "int read(int,int,int,int)", "int torn()",
        "int count(int)"};
    private static int wrong = 0;

    private static void demand(boolean holds, String rule) {
        if (!holds) {
            wrong++;
            System.out.println("broken: " + rule);
        }
    }

    private static String told(Method m) {
        StringBuilder b = new StringBuilder(m.getReturnType().getSimpleName()).append(' ').append(m.getName()).append('(');
        for (Class<?> p : m.getParameterTypes()) {
            b.append(b.charAt(b.length() - 1) == '(' ? "" : ",").append(p.getSimpleName());
        }
        return b.append(')').toString();
    }

    private static void face() {
        Class<LinkTree> it = LinkTree.class;
        demand(Modifier.isPublic(it.getModifiers()) && Modifier.isFinal(it.getModifiers()), "1 public and final");
        Set<String> open = new TreeSet<>();
        Set<String> names = new TreeSet<>();
        for (Method m : it.getDeclaredMethods()) {
            if (Modifier.isPublic(m.getModifiers())) {
                open.add(told(m));
                names.add(m.getName());
            } else {
                demand(Modifier.isPrivate(m.getModifiers()), "1 not private: " + m);
            }
        }
        demand(open.equals(new TreeSet<>(Arrays.asList(FACE))), "1 the face: " + open);
        Set<String> constants = new TreeSet<>();
        for (Field f : it.getDeclaredFields()) {
            if (Modifier.isPublic(f.getModifiers())) {
                constants.add(f.getName());
                demand(Modifier.isStatic(f.getModifiers()) && Modifier.isFinal(f.getModifiers()), "1 a constant: " + f);
            } else {
                demand(Modifier.isPrivate(f.getModifiers()), "1 not private: " + f);
            }
        }
        demand(constants.equals(Set.of("BAD", "STATE", "FULL", "NONE")), "1 the constants: " + constants);
        Constructor<?>[] makers = it.getDeclaredConstructors();
        demand(makers.length == 1 && makers[0].getParameterCount() == 0 && Modifier.isPublic(makers[0].getModifiers()), "1 the constructor");
        inside(it, names);
    }

    private static void inside(Class<?> it, Set<String> open) {
        demand(it.getDeclaredClasses().length < 12, "11 classes");
        small(it, open, false);
        for (Class<?> c : it.getDeclaredClasses()) {
            demand(Modifier.isStatic(c.getModifiers()) && !Modifier.isPublic(c.getModifiers()), "1, 2 static inside: " + c);
            small(c, open, true);
        }
    }

    private static void small(Class<?> c, Set<String> open, boolean isInside) {
        long fields = Arrays.stream(c.getDeclaredFields()).filter(f -> !Modifier.isStatic(f.getModifiers())).count();
        demand(fields <= 20, "11 fields of " + c);
        for (Field f : c.getDeclaredFields()) {
            demand(!Modifier.isStatic(f.getModifiers()) || Modifier.isFinal(f.getModifiers()), "5 static and not final: " + f);
        }
        for (Method m : c.getDeclaredMethods()) {
            demand(m.getParameterCount() <= 7, "11 parameters of " + m);
            demand(!m.isSynthetic(), "2 a lambda: " + m);
            if (isInside) {
                demand(!open.contains(m.getName()), "1 bears the name of a public one: " + m);
            }
        }
    }

    private static void text() throws IOException {
        String whole = Files.readString(SOURCE);
        demand(whole.chars().allMatch(c -> c == '\n' || c >= 32 && c < 127), "3 a sign beyond 126");
        String code = whole.replaceAll("(?s)/\\*.*?\\*/", "").replaceAll("//[^\n]*", "");
        for (String word : new String[] {"throw", "throws", "try", "catch", "finally", "synchronized", "assert", "package",
            "Object", "Thread", "Random", "record", "equals", "hashCode", "toString", "native", "volatile"}) {
            demand(!Pattern.compile("\\b" + word + "\\b").matcher(code).find(), "6 the word " + word);
        }
        demand(!code.contains("->") && !code.contains("::") && !code.contains("Exact"), "2, 4 a lambda, a reference, an Exact");
        Matcher imports = Pattern.compile("import ([^;]+);").matcher(code);
        while (imports.find()) {
            demand(Set.of("java.util.Arrays", "java.util.ArrayList", "java.util.List").contains(imports.group(1)), "4 " + imports.group());
        }
        Matcher library = Pattern.compile("\\b(Arrays|System|Math|Integer|Long)\\.(\\w+)").matcher(code);
        while (library.find()) {
            demand(Set.of("fill", "copyOf", "copyOfRange", "arraycopy", "max", "min", "abs", "bitCount", "compare", "floorDiv", "floorMod")
                .contains(library.group(2)), "4 " + library.group());
        }
        methodsAreShort(code);
    }

    private static void methodsAreShort(String code) {
        int lines = 0;
        boolean isOpen = false;
        String indent = "";
        for (String line : code.split("\n")) {
            Matcher head = Pattern.compile("^(    |        )\\S.*\\) \\{$").matcher(line);
            if (!isOpen && head.find()) {
                isOpen = true;
                indent = head.group(1);
                lines = 0;
            }
            lines++;
            if (isOpen && line.equals(indent + "}")) {
                isOpen = false;
                demand(lines <= 60, "11 a long method ahead of " + line);
            }
        }
    }

    /** The text of each method by its name; methods of one name in several classes are taken as one. */
    private static Map<String, String> bodies(String code) {
        Map<String, String> bodies = new TreeMap<>();
        Matcher method = Pattern.compile("(?sm)^( +)(?:[a-z]+ )*[\\w\\[\\]]+ (\\w+)\\([^()]*\\) \\{\n(.*?)^\\1\\}").matcher(code);
        while (method.find()) {
            bodies.merge(method.group(2), method.group(3), String::concat);
        }
        return bodies;
    }

    /** How many calls stand open at once, that of the name itself counted, if none calls itself again. */
    private static int depth(Map<String, String> bodies, String name, List<String> open) {
        int most = 0;
        Matcher call = Pattern.compile("(?<!Arrays\\.)\\b(\\w+)\\(").matcher(bodies.get(name));
        List<String> opened = new ArrayList<>(open);
        opened.add(name);
        while (call.find()) {
            String next = call.group(1);
            // copyFrom of a World calls that of its Tree and Clients; explore is the one recursion, its depth is an argument
            boolean isAgain = next.equals(name) && Set.of("copyFrom", "explore").contains(name);
            if (bodies.containsKey(next) && !isAgain) {
                demand(!opened.contains(next), "8 calls itself: " + opened + " " + next);
                most = opened.contains(next) ? most : Math.max(most, depth(bodies, next, opened));
            }
        }
        demand(!name.equals("copyFrom") || most == 0, "11 copyFrom calls more than another copyFrom");
        return 1 + most + (name.equals("copyFrom") ? 1 : 0);
    }

    private static void callsAreFlat() throws IOException {
        Map<String, String> bodies = bodies(Files.readString(SOURCE).replaceAll("//[^\n]*", ""));
        for (String told : FACE) {
            String name = told.replaceAll("^\\w+ |\\(.*", "");
            demand(bodies.containsKey(name), "11 no text found of " + name);
            if (bodies.containsKey(name)) {
                int depth = depth(bodies, name, List.of());
                demand(depth <= 8, "11 calls of " + name + " go " + depth + " deep");
            }
        }
    }

    public static void main(String[] args) throws IOException {
        face();
        text();
        callsAreFlat();
        System.out.println("LanguageTest: " + wrong + " rules broken");
        if (wrong != 0) {
            System.exit(1);
        }
    }
}
