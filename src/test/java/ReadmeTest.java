import java.lang.reflect.Method;
import java.lang.reflect.Modifier;
import java.nio.file.Files;
import java.nio.file.Path;
import java.util.regex.Matcher;
import java.util.regex.Pattern;

/** README.md says how to use the class: what it shows must be so, and no call may be left out. */
public final class ReadmeTest {
    private static final Pattern BLOCK = Pattern.compile("```java\n(.*?)```", Pattern.DOTALL);
    private static final Pattern LINE = Pattern.compile("x\\.(\\w+)\\(([-0-9, ]*)\\); +// (-?\\d+)(:.*)?");
    private static int wrong = 0;

    private static void complain(String what) {
        wrong++;
        System.out.println(what);
    }

    private static Method methodOf(String name) {
        for (Method m : HarrowSaid.class.getDeclaredMethods()) {
            if (m.getName().equals(name) && Modifier.isPublic(m.getModifiers())) {
                return m;
            }
        }
        return null;
    }

    private static long answer(HarrowSaid x, String name, String numbers) throws Exception {
        String[] told = numbers.isEmpty() ? new String[0] : numbers.split(", *");
        Object[] arguments = new Object[told.length];
        for (int i = 0; i < told.length; i++) {
            arguments[i] = Integer.valueOf(told[i].trim());
        }
        return ((Number) methodOf(name).invoke(x, arguments)).longValue();
    }

    private static int example(String block) throws Exception {
        HarrowSaid x = null;
        int shown = 0;
        for (String line : block.split("\n")) {
            Matcher m = LINE.matcher(line);
            if (line.equals("HarrowSaid x = new HarrowSaid();")) {
                x = new HarrowSaid();
            } else if (x == null || !m.matches() || methodOf(m.group(1)) == null) {
                complain("README.md: no call with its answer: " + line);
            } else {
                shown++;
                long got = answer(x, m.group(1), m.group(2));
                if (got != Long.parseLong(m.group(3))) {
                    complain("README.md: " + line + " answers " + got);
                }
            }
        }
        return shown;
    }

    public static void main(String[] args) throws Exception {
        String readme = Files.readString(Path.of("README.md"));
        int shown = 0;
        Matcher blocks = BLOCK.matcher(readme);
        while (blocks.find()) {
            shown += example(blocks.group(1));
        }
        if (shown == 0) {
            complain("README.md: shows no call");
        }
        for (Method m : HarrowSaid.class.getDeclaredMethods()) {
            if (Modifier.isPublic(m.getModifiers()) && !readme.contains("`" + m.getName() + "(")) {
                complain("README.md: does not name " + m.getName());
            }
        }
        if (!readme.contains(".ci/run")) {
            complain("README.md: does not say how to run the tests");
        }
        System.out.println(wrong == 0 ? "README.md shows " + shown + " calls as they answer" : wrong + " things in README.md are not so");
        if (wrong != 0) {
            System.exit(1);
        }
    }
}
