import java.io.IOException;
import java.lang.reflect.Method;
import java.lang.reflect.Modifier;
import java.nio.file.Files;
import java.nio.file.Path;
import java.util.Arrays;
import java.util.Set;
import java.util.TreeSet;
import java.util.regex.Matcher;
import java.util.regex.Pattern;

/** The calls that README.md shows are answered as it says, in one run on one object. */
public final class ReadmeTest extends Sentences {
    private static final Path PAGE = Path.of("README.md");
    private static final Pattern BLOCK = Pattern.compile("```java\n(.*?)```", Pattern.DOTALL);
    private static final Pattern FED = Pattern.compile("for \\(char c : \"([^\"]*)\"\\.toCharArray\\(\\)\\) x\\.feed\\(c\\);");
    private static final Pattern CALL = Pattern.compile("x\\.(\\w+)\\(([-0-9, ]*)\\); +// (-?[0-9]+)(:.*)?");
    private static final Set<String> SHOWN = new TreeSet<>();

    private static Object[] arguments(String told) {
        return told.isBlank() ? new Object[0] : Arrays.stream(told.split(",")).map(s -> Integer.valueOf(s.trim())).toArray();
    }

    private static void call(LinkTree x, Matcher line) throws ReflectiveOperationException {
        Object[] args = arguments(line.group(2));
        Class<?>[] kinds = new Class<?>[args.length];
        Arrays.fill(kinds, int.class);
        Method m = LinkTree.class.getMethod(line.group(1), kinds);
        SHOWN.add(m.getName());
        due(line.group(), ((Number) m.invoke(x, args)).longValue(), Long.parseLong(line.group(3)));
    }

    private static void follow(LinkTree x, String line) throws ReflectiveOperationException {
        Matcher fed = FED.matcher(line);
        Matcher called = CALL.matcher(line);
        if (fed.matches()) {
            fed.group(1).chars().forEach(x::feed);
            SHOWN.add("feed");
        } else if (called.matches()) {
            call(x, called);
        } else {
            due("is it a line that can be followed: " + line, line.equals("LinkTree x = new LinkTree();") ? 1 : 0, 1);
        }
    }

    public static void main(String[] args) throws IOException, ReflectiveOperationException {
        LinkTree x = new LinkTree();
        Matcher block = BLOCK.matcher(Files.readString(PAGE));
        while (block.find()) {
            for (String line : block.group(1).split("\n")) {
                follow(x, line);
            }
        }
        for (Method m : LinkTree.class.getDeclaredMethods()) {
            boolean isShown = SHOWN.contains(m.getName()) || !Modifier.isPublic(m.getModifiers());
            due("is there a call of " + m.getName(), isShown ? 1 : 0, 1);
        }
        close("ReadmeTest");
    }
}
