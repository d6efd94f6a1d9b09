import java.io.IOException;
import java.lang.reflect.Constructor;
import java.lang.reflect.Field;
import java.lang.reflect.Member;
import java.lang.reflect.Method;
import java.lang.reflect.Modifier;
import java.nio.file.Files;
import java.nio.file.Path;
import java.util.ArrayList;
import java.util.List;
import java.util.Set;
import java.util.TreeSet;
import java.util.regex.Matcher;
import java.util.regex.Pattern;

/** The public face, and the rules of LANGUAGE.md that can be seen in the text; runs in the project's folder. */
public final class FaceTest {
    private static final String[] FACE = {"int write(int)", "int wipe()", "int fault()", "int craft()",
        "int wheel(int,int)", "int told(boolean,int,int)", "int momentum(int)", "int tick(int)", "int kill(int)",
        "int mend(int)", "int free()", "int set(int,int)", "int want(int,int,int,int)", "int undo()", "int plan(int)",
        "int next(int)", "int ahead(int,int)", "int later(int,int)", "int spun()", "int dumps()", "int worst()",
        "int judge(int,long)", "int see(int,int,int,int)", "int unsee()", "int which()", "int share(int,boolean)",
        "int lost(int,boolean)", "long seed(long)", "int drawn(int)", "int keep(int)", "int again(int)",
        "int count(int)"};
    /** The document names no exception, so there is nothing to throw or to catch. */
    private static final String[] BARRED = {"\\bimport\\b", "\\bpackage\\b", "\\bcatch\\b", "\\bthrow\\b", "\\bfinally\\b",
        "\\bFloat\\b", "\\bDouble\\b", "->", "::", "\\bsynchronized\\b", "\\bassert\\b", "\\bhashCode\\b",
        "[^\\x00-\\x7f]", "\"\\s*\\+|\\+\\s*\""};
    private static final Path CLASS = Path.of("src/main/java/SpinWheels.java");

    public static void main(String[] args) throws IOException {
        members();
        names();
        statics();
        text();
        lengths();
        Due.end("FaceTest");
    }

    private static void members() {
        Set<String> due = new TreeSet<>(Set.of(FACE));
        Set<String> got = new TreeSet<>();
        for (Method m : SpinWheels.class.getDeclaredMethods()) {
            if (shown(m)) {
                StringBuilder s = new StringBuilder(m.getReturnType() + " " + m.getName() + "(");
                for (Class<?> p : m.getParameterTypes()) {
                    s.append(s.charAt(s.length() - 1) == '(' ? "" : ",").append(p);
                }
                got.add(s + ")");
                Due.isTrue("not public or static: " + s, m.getModifiers() == Modifier.PUBLIC);
            }
        }
        Due.isTrue("the face is " + got, got.equals(due));
        Set<String> constants = new TreeSet<>();
        for (Field f : SpinWheels.class.getDeclaredFields()) {
            if (shown(f)) {
                constants.add(Modifier.toString(f.getModifiers()) + " " + f.getType() + " " + f.getName());
            }
            Due.isTrue("static, not final: " + f, !Modifier.isStatic(f.getModifiers())
                || Modifier.isFinal(f.getModifiers()));
        }
        Due.isTrue("the constants are " + constants, constants.equals(new TreeSet<>(Set.of(
            "public static final int UNKNOWN", "public static final int OUTSIDE", "public static final int STATE",
            "public static final int FULL", "public static final int NONE"))));
        Constructor<?>[] makers = SpinWheels.class.getDeclaredConstructors();
        Due.isTrue("the constructors", makers.length == 1 && Modifier.isPublic(makers[0].getModifiers())
            && makers[0].getParameterCount() == 0);
        Due.same("public final", SpinWheels.class.getModifiers(), Modifier.PUBLIC | Modifier.FINAL);
    }

    private static boolean shown(Member m) {
        return !Modifier.isPrivate(m.getModifiers()) && !m.isSynthetic();
    }

    private static void names() {
        Set<String> open = new TreeSet<>();
        for (Method m : SpinWheels.class.getDeclaredMethods()) {
            if (Modifier.isPublic(m.getModifiers())) {
                open.add(m.getName());
            }
        }
        for (Class<?> c : SpinWheels.class.getDeclaredClasses()) {
            Due.isTrue("a class inside that is not static: " + c, Modifier.isStatic(c.getModifiers()));
            for (Method m : c.getDeclaredMethods()) {
                Due.isTrue("a public name: " + m, !open.contains(m.getName()));
            }
        }
        for (Method m : SpinWheels.class.getDeclaredMethods()) {
            Due.isTrue("a public name: " + m, Modifier.isPublic(m.getModifiers()) || !open.contains(m.getName()));
            Due.isTrue("too many parameters: " + m, m.getParameterCount() <= 7);
        }
    }

    private static void statics() {
        Set<Class<?>> kinds = Set.of(int.class, long.class, boolean.class, char.class, String.class, int[].class,
            long[].class, char[].class, byte[].class);
        List<Class<?>> all = new ArrayList<>(List.of(SpinWheels.class.getDeclaredClasses()));
        all.add(SpinWheels.class);
        Due.isTrue("too many classes: " + all, all.size() <= 12);
        for (Class<?> c : all) {
            int own = 0;
            for (Field f : c.getDeclaredFields()) {
                boolean constant = Modifier.isStatic(f.getModifiers());
                own += constant ? 0 : 1;
                Due.isTrue("a static field that is no constant: " + f, !constant || kinds.contains(f.getType())
                    && Modifier.isFinal(f.getModifiers()));
            }
            Due.isTrue("too many fields: " + c, own <= 20);
        }
    }

    /** From the line that begins a method to the one that ends it; both are indented alike. */
    private static void lengths() throws IOException {
        Pattern begins = Pattern.compile("( {4}| {8})(public|private) [^=;]*\\) \\{");
        List<String> lines = Files.readAllLines(CLASS);
        int methods = 0;
        for (int i = 0; i < lines.size(); i++) {
            Matcher m = begins.matcher(lines.get(i));
            if (m.matches()) {
                int length = lines.subList(i, lines.size()).indexOf(m.group(1) + "}") + 1;
                Due.isTrue("too long: " + lines.get(i).trim(), length > 0 && length <= 60);
                methods++;
            }
        }
        Due.isTrue("the methods are not found", methods > FACE.length);
    }

    private static void text() throws IOException {
        String text = Files.readString(CLASS);
        String code = text.replaceAll("(?s)/\\*.*?\\*/", "").replaceAll("//[^\n]*", "");
        for (String word : BARRED) {
            Due.isTrue("barred: " + word, !Pattern.compile(word).matcher(code).find());
        }
        Matcher calls = Pattern.compile("\\b(Math|Integer|Long|System|Arrays|String|Character)\\.\\w+").matcher(code);
        Set<String> free = Set.of("Math.abs", "Math.min", "Integer.bitCount", "System.arraycopy");
        while (calls.find()) {
            Due.isTrue("the library: " + calls.group(), free.contains(calls.group()));
        }
    }
}
