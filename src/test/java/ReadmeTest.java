import java.lang.reflect.Method;
import java.lang.reflect.Modifier;
import java.nio.charset.StandardCharsets;
import java.nio.file.Files;
import java.nio.file.Path;
import java.util.regex.Matcher;
import java.util.regex.Pattern;

/** The calls in README.md, one behind the other on one object, answer what stands behind them; every call is named. */
public final class ReadmeTest {

    private static final Pattern CALL = Pattern.compile("^halls\\.(\\w+)\\((.*?)\\);\\s*// (-?\\d+)(:.*)?$", Pattern.MULTILINE);

    private static int wrong = 0;

    private static void check(boolean ok, String what) {
        if (!ok) {
            wrong++;
            System.out.println(what);
        }
    }

    private static long answer(CarpetHalls halls, String name, String given) throws Exception {
        String[] words = given.isBlank() ? new String[0] : given.split(",");
        Class<?>[] types = new Class<?>[words.length];
        Object[] numbers = new Object[words.length];
        for (int i = 0; i < words.length; i++) {
            types[i] = int.class;
            numbers[i] = Integer.decode(words[i].trim());
        }
        return ((Number) CarpetHalls.class.getMethod(name, types).invoke(halls, numbers)).longValue();
    }

    private static void callsAnswerAsTold(String page) throws Exception {
        CarpetHalls halls = new CarpetHalls();
        int calls = 0;
        Matcher m = CALL.matcher(page);
        while (m.find()) {
            calls++;
            long got = answer(halls, m.group(1), m.group(2));
            check(got == Long.parseLong(m.group(3)), m.group() + " answered " + got);
        }
        int lines = page.split("\nhalls\\.", -1).length - 1;
        check(calls == lines && calls > 20, calls + " calls of " + lines + " were found");
    }

    private static void everyCallIsNamed(String page) {
        for (Method method : CarpetHalls.class.getDeclaredMethods()) {
            check(!Modifier.isPublic(method.getModifiers()) || page.contains("`" + method.getName() + "`"),
                    method.getName() + " is not named");
        }
    }

    private static void everyTestIsNamed(String page) throws Exception {
        try (java.nio.file.DirectoryStream<Path> files = Files.newDirectoryStream(Path.of("src/test/java"), "*.java")) {
            for (Path file : files) {
                String name = file.getFileName().toString().replace(".java", "");
                check(page.contains("- `" + name), name + " is not named");
            }
        }
    }

    public static void main(String[] args) throws Exception {
        String page = Files.readString(Path.of("README.md"), StandardCharsets.UTF_8);
        callsAnswerAsTold(page);
        everyCallIsNamed(page);
        everyTestIsNamed(page);
        System.out.println(wrong == 0 ? "README.md is right" : wrong + " lines of README.md are wrong");
        if (wrong != 0) System.exit(1);
    }
}
