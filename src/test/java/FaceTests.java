import java.lang.reflect.Constructor;
import java.lang.reflect.Field;
import java.lang.reflect.Method;
import java.lang.reflect.Modifier;
import java.nio.file.Files;
import java.nio.file.Path;
import java.util.Set;
import java.util.TreeSet;
import java.util.regex.Matcher;
import java.util.regex.Pattern;

/** The public face, and those rules of LANGUAGE.md that can be seen in the file itself. */
public final class FaceTests {
    private static final Set<String> FACE = Set.of(
            "int feed(int,int,int,int,int)", "int back(int)", "int read()", "int place()", "int table(int)",
            "int row(int,int,int,int,int)", "boolean room(int)", "boolean budget(int)",
            "int index(int,int,int,int,int)", "int more(int,int)", "int cost(int)", "int deed(int,int)",
            "int way(int,int,int)", "int best()", "int play(int)", "int undo()", "int done(int)", "int marks()",
            "int foretells(int)", "int explained(int)", "int ideas()", "int hint()", "int saved(int,int)",
            "int count(int)");

    public static void main(String[] args) throws Exception {
        members();
        names();
        source();
        Due.end();
    }

    private static void members() {
        Class<?> face = TunerGame.class;
        Due.is("public and final", face.getModifiers(), Modifier.PUBLIC | Modifier.FINAL);
        Set<String> seen = new TreeSet<>();
        for (Method method : face.getDeclaredMethods()) {
            if (!Modifier.isPrivate(method.getModifiers()) && !method.isSynthetic()) {
                seen.add(method.toString().replace("public ", "").replace("TunerGame.", ""));
            }
        }
        Due.is("methods that are not private: " + seen, seen.equals(FACE), true);
        for (Field field : face.getDeclaredFields()) {
            boolean hidden = Modifier.isPrivate(field.getModifiers());
            Due.is("only NONE is seen, not " + field.getName(), hidden, !field.getName().equals("NONE"));
            boolean fixed = !Modifier.isStatic(field.getModifiers()) || Modifier.isFinal(field.getModifiers());
            Due.is("no static state: " + field.getName(), fixed, true);
        }
        Constructor<?>[] made = face.getDeclaredConstructors();
        Due.is("one constructor", made.length, 1);
        Due.is("without parameters", made[0].getParameterCount(), 0);
        Due.is("NONE", TunerGame.NONE, -1);
    }

    private static void names() {
        Set<String> open = new TreeSet<>();
        FACE.forEach(method -> open.add(method.replaceAll("^\\w+ |\\(.*", "")));
        Class<?>[] inside = TunerGame.class.getDeclaredClasses();
        Due.is("at most twelve classes", inside.length < 12, true);
        for (Class<?> one : inside) {
            Due.is(one + " is static", Modifier.isStatic(one.getModifiers()), true);
            for (Method method : one.getDeclaredMethods()) {
                Due.is(one + " has a method of the face: " + method, open.contains(method.getName()), false);
            }
        }
        for (Method method : TunerGame.class.getDeclaredMethods()) {
            Due.is(method + " takes at most seven", method.getParameterCount() <= 7, true);
            boolean twin = Modifier.isPrivate(method.getModifiers()) && open.contains(method.getName());
            Due.is(method + " is private and has a name of the face", twin, false);
        }
    }

    private static void source() throws Exception {
        String text = Files.readString(Path.of("src/main/java/TunerGame.java"));
        Due.is("characters 0 to 127 alone", text.chars().allMatch(c -> c < 128), true);
        String code = text.replaceAll("(?s)/\\*.*?\\*/", " ").replaceAll("//[^\n]*", " ").replaceAll("\"[^\"]*\"", "\"\"");
        String[] ruledOut = {"\\bthrow\\b", "\\btry\\b", "\\bcatch\\b", "\\bassert\\b", "\\bsynchronized\\b",
            "\\bimport\\b", "\\bpackage\\b", "::", "\\bSystem\\b", "\\bdouble\\b", "\\bfloat\\b", "\\w+Exact\\b",
            "\"\" *\\+", "\\+ *\"\""};
        for (String word : ruledOut) {
            Matcher found = Pattern.compile(word).matcher(code);
            Due.is("the file has " + word, found.find(), false);
        }
    }
}
