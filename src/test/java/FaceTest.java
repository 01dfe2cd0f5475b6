import java.io.IOException;
import java.lang.reflect.Constructor;
import java.lang.reflect.Field;
import java.lang.reflect.Member;
import java.lang.reflect.Method;
import java.lang.reflect.Modifier;
import java.nio.file.Files;
import java.nio.file.Path;
import java.util.Arrays;
import java.util.Set;
import java.util.TreeSet;

/** The face of the class, and what of LANGUAGE.md can be seen from the class and its source. */
public final class FaceTest {
    private static final String[] FACE = {"write(int,long)", "wipe()", "fault()", "lay()", "person(int,int)", "worth(int,int)",
        "buy(int)", "toss(int)", "sell(int,int)", "undo()", "price(int)", "would(int)", "behind(int,boolean)",
        "rest(boolean,int)", "rests(int)", "tip(int,boolean,int)", "place(int,int)", "burn(int)", "share()",
        "seen(int,int,boolean)", "forget()", "likes(int,int)", "year(int,int,int)", "keep()", "back()", "count(int)"};
    private static final String[] NOT_ALLOWED = {"import ", "throw ", "throws ", "try ", "catch", "->", "::", "synchronized", "assert",
        "Exact(", "Object", "instanceof", "static {", "var ", "System.", "Thread", "equals", "hashCode", "toString"};

    private final Due due = new Due();

    public static void main(String[] args) throws IOException {
        FaceTest test = new FaceTest();
        test.members();
        test.insideClasses();
        test.source(Files.readString(Path.of("src/main/java/DearAsMany.java")));
        test.due.end();
    }

    private static boolean shown(Member m) {
        return !Modifier.isPrivate(m.getModifiers()) && !m.isSynthetic();
    }

    private void members() {
        due.is("the class's modifiers", DearAsMany.class.getModifiers(), Modifier.PUBLIC | Modifier.FINAL);
        Set<String> methods = new TreeSet<>();
        for (Method m : DearAsMany.class.getDeclaredMethods()) {
            if (shown(m)) {
                String types = Arrays.toString(m.getParameterTypes()).replaceAll("[\\[\\] ]", "");
                methods.add(m.getName() + "(" + types + ")");
                due.is(m.getName() + " is public alone", m.getModifiers(), Modifier.PUBLIC);
                due.is(m.getName() + " answers an int", m.getReturnType() == int.class ? 1 : 0, 1);
            }
        }
        yes("the face's methods, not " + methods, methods.equals(new TreeSet<>(Arrays.asList(FACE))));
        Set<String> fields = new TreeSet<>();
        for (Field f : DearAsMany.class.getDeclaredFields()) {
            if (shown(f)) {
                fields.add(f.getName() + " " + Modifier.toString(f.getModifiers()) + " " + f.getType());
            }
        }
        String kind = " public static final int";
        yes("the face's constants, not " + fields,
                fields.equals(Set.of("BAD" + kind, "NO" + kind, "FULL" + kind, "NONE" + kind)));
        Constructor<?>[] made = DearAsMany.class.getDeclaredConstructors();
        due.is("constructors", made.length, 1);
        due.is("the constructor's modifiers", made[0].getModifiers(), Modifier.PUBLIC);
        due.is("the constructor's parameters", made[0].getParameterCount(), 0);
    }

    private void insideClasses() {
        Set<String> face = new TreeSet<>();
        for (String m : FACE) {
            face.add(m.substring(0, m.indexOf('(')));
        }
        int classes = 1;
        for (Class<?> c : DearAsMany.class.getDeclaredClasses()) {
            classes++;
            yes(c + " is static and not public", Modifier.isStatic(c.getModifiers()) && !Modifier.isPublic(c.getModifiers()));
            for (Method m : c.getDeclaredMethods()) {
                yes(m + " bears no name of the face", !face.contains(m.getName()));
                yes(m + " takes seven at most", m.getParameterCount() <= 7);
            }
        }
        for (Method m : DearAsMany.class.getDeclaredMethods()) {
            yes(m + " bears no name of the face", shown(m) || m.isSynthetic() || !face.contains(m.getName()));
        }
        yes("twelve classes at most", classes <= 12);
    }

    private void source(String source) {
        String code = source.replaceAll("(?s)/\\*.*?\\*/", "").replaceAll("//[^\n]*", "");
        for (String word : NOT_ALLOWED) {
            yes("the source has no '" + word + "'", !code.contains(word));
        }
        yes("the source has signs 1 to 127", source.chars().allMatch(c -> c > 0 && c < 128));
    }

    private void yes(String what, boolean so) {
        due.is(what, so ? 1 : 0, 1);
    }
}
