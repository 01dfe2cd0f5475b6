import java.io.IOException;
import java.lang.reflect.Method;
import java.lang.reflect.Modifier;
import java.net.URL;
import java.net.URLClassLoader;
import java.nio.file.Files;
import java.nio.file.Path;
import java.util.ArrayList;
import java.util.List;
import java.util.regex.Matcher;
import java.util.regex.Pattern;
import java.util.stream.Stream;
import javax.tools.ToolProvider;

/** README.md: what it shows of the class's use is true, and its tables name all classes and tests that there are. */
public final class ReadmeTest {
    private static final Pattern BLOCK = Pattern.compile("(?s)```java\n(.*?)```");
    private static final Pattern CALL = Pattern.compile("(x\\.(\\w+)\\(.*?\\)); +// (\\w+)\\b.*");
    private static final Pattern MAKING = Pattern.compile("DearAsMany x = new DearAsMany\\(\\);( +//.*)?");

    private final Due due = new Due();
    private final List<String> calls = new ArrayList<>();
    private final List<String> names = new ArrayList<>();
    private final List<String> shown = new ArrayList<>();

    public static void main(String[] args) throws Exception {
        ReadmeTest test = new ReadmeTest();
        String page = Files.readString(Path.of("README.md"));
        test.readBlocks(page);
        test.answers();
        test.allShown();
        test.allNamed(page);
        test.due.end();
    }

    /** A line that is neither a call nor a new object is a fault: nothing would look whether it is true. */
    private void readBlocks(String page) {
        Matcher block = BLOCK.matcher(page);
        while (block.find()) {
            for (String line : block.group(1).split("\n")) {
                Matcher call = CALL.matcher(line);
                if (call.matches()) {
                    calls.add(call.group(1));
                    names.add(call.group(2));
                    shown.add(call.group(3));
                } else if (MAKING.matcher(line).matches()) {
                    calls.add("");
                    names.add("");
                    shown.add("");
                } else {
                    due.is("README's line '" + line + "' is read", 0, 1);
                }
            }
        }
    }

    /** The calls as README writes them are compiled, so that they are those that a reader would copy. */
    private void answers() throws Exception {
        StringBuilder s = new StringBuilder("public final class Shown {\n    public static void all(int[] got, int[] want) {\n");
        s.append("        DearAsMany x = null;\n");
        for (int k = 0; k < calls.size(); k++) {
            if (calls.get(k).isEmpty()) {
                s.append("        x = new DearAsMany();\n");
            } else {
                s.append("        got[" + k + "] = " + calls.get(k) + ";\n");
                s.append("        want[" + k + "] = " + number(shown.get(k)) + ";\n");
            }
        }
        Method all = compiled(s.append("    }\n}\n").toString()).getMethod("all", int[].class, int[].class);
        int[] got = new int[calls.size()];
        int[] want = new int[calls.size()];
        all.invoke(null, got, want);
        for (int k = 0; k < got.length; k++) {
            due.is("README's " + calls.get(k), got[k], want[k]);
        }
    }

    private static String number(String shown) {
        return shown.matches("\\d+") ? shown : "DearAsMany." + shown;
    }

    private static Class<?> compiled(String source) throws Exception {
        Path room = Files.createTempDirectory("readme");
        try {
            Path file = room.resolve("Shown.java");
            Files.writeString(file, source);
            String path = System.getProperty("java.class.path");
            int code = ToolProvider.getSystemJavaCompiler().run(null, null, null, "-d", room.toString(), "-cp", path, file.toString());
            if (code != 0) {
                throw new IllegalStateException("what README shows does not compile");
            }
            try (URLClassLoader loader = new URLClassLoader(new URL[] {room.toUri().toURL()})) {
                return loader.loadClass("Shown");
            }
        } finally {
            for (String name : new String[] {"Shown.java", "Shown.class", ""}) {
                Files.deleteIfExists(room.resolve(name));
            }
        }
    }

    private void allShown() {
        for (Method m : DearAsMany.class.getDeclaredMethods()) {
            if (Modifier.isPublic(m.getModifiers())) {
                yes("README shows " + m.getName() + "()", names.contains(m.getName()));
            }
        }
        for (String constant : new String[] {"BAD", "NO", "FULL", "NONE"}) {
            yes("README shows an answer of " + constant, shown.contains(constant));
        }
    }

    private void allNamed(String page) throws IOException {
        StringBuilder rows = new StringBuilder();
        for (String line : page.split("\n")) {
            if (line.startsWith("| ")) {
                rows.append(line.split("\\|")[1]).append(',');
            }
        }
        List<String> told = List.of(rows.toString().split("[ ,]+"));
        for (Class<?> c : DearAsMany.class.getDeclaredClasses()) {
            yes("README tells of the class " + c.getSimpleName(), told.contains(c.getSimpleName()));
        }
        List<String> tests;
        try (Stream<Path> files = Files.list(Path.of("src/test/java"))) {
            tests = files.map(f -> f.getFileName().toString().replace(".java", "")).filter(f -> f.endsWith("Test")).toList();
        }
        for (String test : tests) {
            yes("README tells of " + test, told.contains(test));
        }
        for (String name : told) {
            yes("README's " + name + " is there", !name.endsWith("Test") || tests.contains(name));
        }
    }

    private void yes(String what, boolean so) {
        due.is(what, so ? 1 : 0, 1);
    }
}
