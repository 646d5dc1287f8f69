import java.io.PrintWriter;
import java.io.StringWriter;
import java.lang.reflect.Constructor;
import java.lang.reflect.Field;
import java.lang.reflect.Method;
import java.lang.reflect.Modifier;
import java.nio.charset.StandardCharsets;
import java.nio.file.Files;
import java.nio.file.Path;
import java.util.ArrayList;
import java.util.HashMap;
import java.util.List;
import java.util.Map;
import java.util.Random;
import java.util.Set;
import java.util.TreeSet;
import java.util.regex.Matcher;
import java.util.regex.Pattern;
import java.util.spi.ToolProvider;

/** The rules of LANGUAGE.md that a test can see: the face, the words of the source, no throw, few objects. */
public final class RulesTest {

    private static int wrong = 0;

    private static void check(boolean ok, String what) {
        if (!ok) {
            wrong++;
            System.out.println(what);
        }
    }

    private static void faceIsTheDocuments() throws Exception {
        String doc = Files.readString(Path.of("../shared/DOC.md"), StandardCharsets.UTF_8);
        TreeSet<String> want = new TreeSet<>();
        Matcher m = Pattern.compile("public (int|long) (\\w+)\\((.*?)\\);").matcher(doc);
        while (m.find()) {
            want.add(m.group(1) + " " + m.group(2) + " " + (m.group(3).isBlank() ? 0 : m.group(3).split(",").length));
        }
        check(want.size() == 43, "the document's face was not found: " + want.size());
        TreeSet<String> got = new TreeSet<>();
        for (Method method : CarpetHalls.class.getDeclaredMethods()) {
            if (Modifier.isPublic(method.getModifiers())) {
                got.add(method.getReturnType().getName() + " " + method.getName() + " " + method.getParameterCount());
            } else {
                check(Modifier.isPrivate(method.getModifiers()), "rule 1: " + method);
            }
        }
        check(got.equals(want), "rule 1: the face is " + got + ", the document's is " + want);
        for (Field field : CarpetHalls.class.getDeclaredFields()) {
            check(Modifier.isPrivate(field.getModifiers()) || field.getName().equals("NONE"), "rule 1: " + field);
            check(!Modifier.isStatic(field.getModifiers()) || Modifier.isFinal(field.getModifiers()), "rule 5: " + field);
        }
        check(Modifier.isFinal(CarpetHalls.class.getModifiers()), "rule 1: final");
        Constructor<?>[] made = CarpetHalls.class.getDeclaredConstructors();
        check(made.length == 1 && made[0].getParameterCount() == 0, "rule 1: constructors");
        check(CarpetHalls.class.getDeclaredClasses().length <= 11, "rule 11: classes");
        for (Class<?> inside : CarpetHalls.class.getDeclaredClasses()) {
            check(Modifier.isStatic(inside.getModifiers()) && !Modifier.isPublic(inside.getModifiers()), "rule 2: " + inside);
            int fields = 0;
            for (Field field : inside.getDeclaredFields()) {
                fields += Modifier.isStatic(field.getModifiers()) ? 0 : 1;
            }
            check(fields <= 20, "rule 11: fields of " + inside);
            for (Method method : inside.getDeclaredMethods()) {
                for (Method face : CarpetHalls.class.getMethods()) {
                    check(face.getDeclaringClass() != CarpetHalls.class || !face.getName().equals(method.getName()),
                            "rule 1: the name of " + method);
                }
                check(method.getParameterCount() <= 7, "rule 11: " + method);
            }
        }
    }

    private static void sourceKeepsToTheLanguage() throws Exception {
        String source = Files.readString(Path.of("src/main/java/CarpetHalls.java"), StandardCharsets.UTF_8);
        for (char c : source.toCharArray()) {
            check(c < 128, "a sign beyond 127: " + (int) c);
        }
        String bare = source.replaceAll("(?s)/\\*.*?\\*/", " ").replaceAll("//[^\n]*", " ")
                .replaceAll("\"[^\"\n]*\"", "TEXT").replaceAll("'[^'\n]'", "SIGN");
        for (String word : new String[] {"throw", "throws", "try", "catch", "finally", "synchronized", "assert",
            "record", "instanceof", "yield", "double", "float", "native", "volatile", "package", "var"}) {
            check(!Pattern.compile("\\b" + word + "\\b").matcher(bare).find(), "the word " + word);
        }
        for (String sign : new String[] {"->", "::", "Exact(", "System.out", "@"}) {
            check(!bare.contains(sign), "the sign " + sign);
        }
        Matcher imports = Pattern.compile("import ([\\w.]+);").matcher(bare);
        while (imports.find()) {
            check(imports.group(1).equals("java.util.Arrays"), "rule 4: " + imports.group(1));
        }
        Matcher library = Pattern.compile("\\b(Integer|Long|Math|Arrays|System|String|Character|Boolean|Object)\\.(\\w+)").matcher(bare);
        TreeSet<String> allowed = new TreeSet<>(java.util.Arrays.asList("Math.min", "Math.max", "Integer.bitCount",
                "System.arraycopy", "Arrays.fill"));
        while (library.find()) {
            check(allowed.contains(library.group(1) + "." + library.group(2)), "rule 4: " + library.group());
        }
        check(!Pattern.compile("\\[\\]\\[\\]\\[\\]").matcher(bare).find(), "rule 3: an array of three dimensions");
        check(!Pattern.compile("while \\(true\\)|for \\(;;").matcher(bare).find(), "rule 9: a loop without an end");
        // A method opens at one of two depths; it must close within some sixty lines.
        String[] lines = source.split("\n");
        for (int i = 0; i < lines.length; i++) {
            Matcher open = Pattern.compile("^( {4}| {8})\\S.*\\) \\{$").matcher(lines[i]);
            if (!open.find()) {
                continue;
            }
            int to = i;
            while (to < lines.length && !lines[to].equals(open.group(1) + "}")) {
                to++;
            }
            check(to - i < 60, "rule 11: a long method at line " + (i + 1));
        }
    }

    // ---- rule 11: how deep calls go

    /** Who calls whom, by the class files; the library's functions count as calls, too. */
    private static Map<String, Set<String>> callsByMethod() throws Exception {
        ToolProvider javap = ToolProvider.findFirst("javap").orElseThrow();
        Path classes = Path.of(CarpetHalls.class.getProtectionDomain().getCodeSource().getLocation().toURI());
        List<String> given = new ArrayList<>(List.of("-p", "-c", "-cp", classes.toString(), "CarpetHalls"));
        for (Class<?> inside : CarpetHalls.class.getDeclaredClasses()) {
            given.add(inside.getName());
        }
        StringWriter told = new StringWriter();
        PrintWriter out = new PrintWriter(told);
        check(javap.run(out, out, given.toArray(new String[0])) == 0, "rule 11: javap: " + told);
        Pattern ofClass = Pattern.compile("^[\\w ]*class (\\S+)");
        Pattern ofMethod = Pattern.compile("^  [^ ].*?([\\w$]+)\\(.*\\);$");
        Pattern ofCall = Pattern.compile("// (?:Interface)?Method (?:([\\w/$]+)\\.)?\"?([\\w<>]+)\"?:");
        Map<String, Set<String>> calls = new HashMap<>();
        String inClass = "";
        Set<String> made = new TreeSet<>();
        for (String line : told.toString().split("\\R")) {
            Matcher m = ofClass.matcher(line);
            if (m.find()) {
                inClass = m.group(1);
            } else if ((m = ofMethod.matcher(line)).find()) {
                String name = m.group(1).equals(inClass) ? "<init>" : m.group(1);
                made = calls.computeIfAbsent(inClass + "." + name, none -> new TreeSet<>());
            } else if ((m = ofCall.matcher(line)).find()) {
                made.add((m.group(1) == null ? inClass : m.group(1).replace('/', '.')) + "." + m.group(2));
            }
        }
        return calls;
    }

    /** The longest way down in which no method comes twice. */
    private static List<String> deepest(String method, Map<String, Set<String>> calls, Set<String> open) {
        List<String> longest = new ArrayList<>();
        open.add(method);
        for (String next : calls.getOrDefault(method, Set.of())) {
            if (open.contains(next)) {
                continue;
            }
            List<String> below = deepest(next, calls, open);
            longest = below.size() > longest.size() ? below : longest;
        }
        open.remove(method);
        List<String> way = new ArrayList<>(List.of(method));
        way.addAll(longest);
        return way;
    }

    private static void callsGoEightDeep() throws Exception {
        Map<String, Set<String>> calls = callsByMethod();
        check(calls.containsKey("CarpetHalls.ways") && calls.get("CarpetHalls.ways").size() >= 2,
                "rule 11: the calls were not found");
        for (String method : new TreeSet<>(calls.keySet())) {
            List<String> way = deepest(method, calls, new TreeSet<>());
            check(way.size() <= 8, "rule 11: " + way.size() + " deep: " + way);
        }
    }

    private static int wild(Random r) {
        switch (r.nextInt(8)) {
            case 0: return r.nextInt();
            case 1: return r.nextBoolean() ? Integer.MAX_VALUE : Integer.MIN_VALUE;
            case 2: return r.nextInt(2000) - 1000;
            default: return r.nextInt(14) - 1;
        }
    }

    private static void callAny(CarpetHalls h, Method[] face, Random r) throws Exception {
        Method method = face[r.nextInt(face.length)];
        Object[] args = new Object[method.getParameterCount()];
        for (int i = 0; i < args.length; i++) {
            args[i] = wild(r);
        }
        method.invoke(h, args);
    }

    private static void nothingIsEverThrown() throws Exception {
        TreeSet<String> names = new TreeSet<>();
        for (Method method : CarpetHalls.class.getDeclaredMethods()) {
            if (Modifier.isPublic(method.getModifiers())) {
                names.add(method.getName());
            }
        }
        Method[] face = new Method[names.size()];
        for (Method method : CarpetHalls.class.getDeclaredMethods()) {
            if (Modifier.isPublic(method.getModifiers())) {
                face[names.headSet(method.getName()).size()] = method;
            }
        }
        for (int run = 0; run < 3000; run++) {
            Random r = new Random(run);
            CarpetHalls h = new CarpetHalls();
            try {
                for (int i = 0; i < 512; i++) {
                    callAny(h, face, r);
                }
            } catch (java.lang.reflect.InvocationTargetException e) {
                check(false, "run " + run + " threw " + e.getCause());
                return;
            }
        }
    }

    /** Behind its constructor an object makes nothing, but for the longer rows of a large search. */
    private static void callsMakeNothing() throws Exception {
        com.sun.management.ThreadMXBean threads =
                (com.sun.management.ThreadMXBean) java.lang.management.ManagementFactory.getThreadMXBean();
        long id = Thread.currentThread().getId();
        long least = Long.MAX_VALUE;
        long made = 0;
        for (int attempt = 0; attempt < 5; attempt++) {
            long ahead = threads.getThreadAllocatedBytes(id);
            CarpetHalls h = new CarpetHalls();
            long behind = threads.getThreadAllocatedBytes(id);
            made = behind - ahead;
            busyRun(h);
            least = Math.min(least, threads.getThreadAllocatedBytes(id) - behind);
        }
        check(made < 200000, "a new object takes " + made + " bytes");
        check(least < 1000, "a run of calls makes " + least + " bytes");
    }

    private static void busyRun(CarpetHalls h) {
        h.hall(3, 3);
        for (int i = 0; i < 9; i++) {
            h.carpet(1, i % 4, 9);
        }
        for (int i = 0; i < 20; i++) {
            h.feed(1668248436, 1931507744, 723548448, 706753083, 2003132786);
            h.feed(1931491616, 1768300651, 1768842272, 1025519931, 1650553459);
            h.feed(543778336, 1936286821, 540876849, 543256164, 544743485);
            h.feed(540016640, 0, 0, 0, 0);
            h.end(62);
            if (i % 2 == 0) {
                h.law();
            } else {
                h.orders();
            }
            h.force(0);
            h.ways();
            h.floors();
            h.look(2);
            h.cheapest();
            h.halls(-1);
            h.lay(0, 1, 1);
            h.free();
            h.years(i, 60);
            h.image(0);
            h.back(0);
            h.few(20, 99);
            h.inner();
            h.force(-1);
            h.mirror();
            h.pass();
            h.undo();
        }
    }

    public static void main(String[] args) throws Exception {
        faceIsTheDocuments();
        sourceKeepsToTheLanguage();
        callsGoEightDeep();
        nothingIsEverThrown();
        callsMakeNothing();
        System.out.println(wrong == 0 ? "the rules are kept" : wrong + " rules are not kept");
        if (wrong != 0) System.exit(1);
    }
}
