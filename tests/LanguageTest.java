import java.lang.reflect.Constructor;
import java.lang.reflect.Field;
import java.lang.reflect.Method;
import java.lang.reflect.Modifier;
import java.nio.file.Files;
import java.nio.file.Path;
import java.util.ArrayList;
import java.util.List;
import java.util.TreeSet;
import java.util.regex.Matcher;
import java.util.regex.Pattern;

/** The face is the document's, and the source keeps to what of LANGUAGE.md can be seen without reading it as a person. */
public final class LanguageTest {
    private static final String[] FACE = {
        "int build(int,int)", "int touch(int,int,int)", "int set(int,int,int)", "int told(int,int)",
        "int painter(int,int)", "int asks(int,int,int)", "int feed(int)", "int text()", "int force(int)",
        "int lawful()", "int step(int,int)", "int paint(int,int)", "int come(int)", "int shortest(int)",
        "int first(int,int)", "int cheapest(int)", "int wishes(int)", "int night(int,int)", "int gap(int)",
        "int turned()", "int touched(int)", "long worth(int)", "int judge(int,int)", "int drawn(int,int)",
        "int image()", "int back()", "int count(int)", "int sheet(int,int,int)", "int cell(int,int,int)",
        "int copy(int,int,int,int,int)", "int paints(int,int,int,int)", "int taken(int,int)"};
    private static final String[] FORBIDDEN = {"\\bthrow\\b", "\\btry\\b", "\\bcatch\\b", "\\bsynchronized\\b",
        "\\bassert\\b", "\\bimport\\b", "\\bpackage\\b", "->", "::", "@", "\\bprotected\\b", "Exact\\(", "\\bdouble\\b",
        "\\bfloat\\b", "\\bequals\\b", "\\bhashCode\\b", "\\btoString\\b", "\\bThread\\b", "System\\.(?!arraycopy)",
        "\\bstatic \\{", "\" *\\+", "\\+ *\""};

    public static void main(String[] args) throws Exception {
        constants();
        face();
        classes();
        source(Files.readString(Path.of("src/main/java/NeverLike.java")));
        Check.end("LanguageTest");
    }

    private static void constants() {
        Check.due("NONE", NeverLike.NONE, -1);
        Check.due("BAD", NeverLike.BAD, -2);
        Check.due("STATE", NeverLike.STATE, -3);
        Check.due("FULL", NeverLike.FULL, -4);
        Check.due("NO", NeverLike.NO, -4611686018427387904L);
    }

    private static void face() {
        TreeSet<String> seen = new TreeSet<>();
        TreeSet<String> names = new TreeSet<>();
        for (Method m : NeverLike.class.getDeclaredMethods()) {
            if (Modifier.isPublic(m.getModifiers())) {
                StringBuilder told = new StringBuilder(m.getReturnType() + " " + m.getName() + "(");
                for (Class<?> type : m.getParameterTypes()) {
                    told.append(told.charAt(told.length() - 1) == '(' ? "" : ",").append(type);
                }
                seen.add(told + ")");
                names.add(m.getName());
                Check.due(m + " is no static", !Modifier.isStatic(m.getModifiers()));
            } else {
                Check.due(m + " is private", Modifier.isPrivate(m.getModifiers()));
            }
        }
        Check.due("the face: " + seen, seen.equals(new TreeSet<>(List.of(FACE))));
        for (Class<?> each : all()) {
            for (Method m : each.getDeclaredMethods()) {
                Check.due(m + " bears no name of the face", Modifier.isPublic(m.getModifiers()) || !names.contains(m.getName()));
            }
        }
        TreeSet<String> constants = new TreeSet<>();
        for (Field f : NeverLike.class.getDeclaredFields()) {
            if (Modifier.isPublic(f.getModifiers())) {
                constants.add(f.getName());
                Check.due(f + " is a constant", Modifier.isStatic(f.getModifiers()) && Modifier.isFinal(f.getModifiers()));
            } else {
                Check.due(f + " is private", Modifier.isPrivate(f.getModifiers()));
            }
        }
        Check.due("public constants", constants.equals(new TreeSet<>(List.of("NONE", "BAD", "STATE", "FULL", "NO"))));
        Constructor<?>[] made = NeverLike.class.getDeclaredConstructors();
        Check.due("one constructor", made.length == 1 && made[0].getParameterCount() == 0 && Modifier.isPublic(made[0].getModifiers()));
    }

    private static List<Class<?>> all() {
        List<Class<?>> all = new ArrayList<>(List.of(NeverLike.class.getDeclaredClasses()));
        all.add(NeverLike.class);
        return all;
    }

    private static void classes() {
        Check.due("twelve classes at most", all().size() <= 12);
        for (Class<?> each : all()) {
            int fields = 0;
            for (Field f : each.getDeclaredFields()) {
                boolean constant = Modifier.isStatic(f.getModifiers());
                Check.due(f + " is final if static", !constant || Modifier.isFinal(f.getModifiers()));
                fields += constant ? 0 : 1;
            }
            Check.due(each + " has twenty fields at most", fields <= 20);
            Check.due(each + " is static if inside", each == NeverLike.class || Modifier.isStatic(each.getModifiers()));
            for (Method m : each.getDeclaredMethods()) {
                Check.due(m + " has seven parameters at most", m.getParameterCount() <= 7);
            }
        }
    }

    private static void source(String text) {
        String code = text.replaceAll("(?s)/\\*.*?\\*/", "").replaceAll("//[^\n]*", "");
        for (String word : FORBIDDEN) {
            Matcher found = Pattern.compile(word).matcher(code);
            Check.due("no " + word, !found.find());
        }
        Check.due("signs 1 to 127", text.chars().allMatch(c -> c > 0 && c < 128));
        int begin = 0;
        String[] lines = text.split("\n");
        for (int i = 0; i < lines.length; i++) {
            if (lines[i].matches(" +[A-Za-z].*\\) \\{") && lines[i].matches(" {4}(?:| {4})\\S.*")) {
                begin = i;
            }
            if (lines[i].matches(" {4}(?:| {4})\\}")) {
                Check.due("sixty lines at most at line " + begin, i - begin <= 60 || !lines[begin].endsWith(") {"));
            }
        }
    }
}
