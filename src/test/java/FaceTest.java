import java.lang.reflect.Constructor;
import java.lang.reflect.Field;
import java.lang.reflect.Method;
import java.lang.reflect.Modifier;
import java.nio.file.Files;
import java.nio.file.Path;
import java.util.Set;
import java.util.TreeSet;
import java.util.regex.Matcher;
import java.util.regex.Pattern;

/** The public face, and those rules of LANGUAGE.md that can be seen from the names and the words of the source. */
public final class FaceTest {
    private static final String[] METHODS = {"int letter(int)", "int blank()", "int fault()", "int hall()",
        "int about(int,int)", "int as(int,int)", "int clap(int,int)", "int arm(int)", "int bar()", "int skip()",
        "int loud(int,int)", "int rest()", "int outcome(int)", "int trick(int,int)", "int turned(int,int)",
        "int record(int)", "int forget()", "int began(int)", "int nights(int,int,int)", "int image()", "int restore()",
        "int count(int)", "long digest()"};
    private static final String[] CONSTANTS = {"FULL=-104", "NONE=-1", "OUTSIDE=-102", "STATE=-103", "UNKNOWN=-101"};
    private static final String[] FORBIDDEN = {"throw", "try", "catch", "synchronized", "assert", "import", "package",
        "protected", "native", "volatile", "Exact", "->", "::", "System.nanoTime", "currentTimeMillis", "Random"};

    private FaceTest() {
    }

    public static void main(String[] args) throws Exception {
        face();
        privateNames();
        source();
        Due.end();
    }

    private static void face() throws Exception {
        Class<ClappedWrong> face = ClappedWrong.class;
        Due.due("public final class", Modifier.isPublic(face.getModifiers()) && Modifier.isFinal(face.getModifiers()));
        Constructor<?>[] made = face.getDeclaredConstructors();
        Due.due("one public constructor", made.length == 1 && Modifier.isPublic(made[0].getModifiers())
            && made[0].getParameterCount() == 0);
        Set<String> methods = new TreeSet<>();
        for (Method each : face.getDeclaredMethods()) {
            if (!Modifier.isPrivate(each.getModifiers()) && !each.isSynthetic()) {
                String text = each.toString().replace("ClappedWrong.", "");
                Due.due("a public method: " + text, text.startsWith("public "));
                methods.add(text.substring("public ".length()));
            }
        }
        Due.dueText("methods", methods.toString(), new TreeSet<>(Set.of(METHODS)).toString());
        Set<String> constants = new TreeSet<>();
        for (Field each : face.getDeclaredFields()) {
            Due.due("static is final: " + each,
                !Modifier.isStatic(each.getModifiers()) || Modifier.isFinal(each.getModifiers()));
            if (!Modifier.isPrivate(each.getModifiers())) {
                Due.due("a constant: " + each, Modifier.isPublic(each.getModifiers())
                    && Modifier.isStatic(each.getModifiers()) && each.getType() == int.class);
                constants.add(each.getName() + "=" + each.getInt(null));
            }
        }
        Due.dueText("constants", constants.toString(), new TreeSet<>(Set.of(CONSTANTS)).toString());
    }

    private static void privateNames() {
        Set<String> open = new TreeSet<>();
        for (Method each : ClappedWrong.class.getMethods()) {
            open.add(each.getName());
        }
        for (Method each : ClappedWrong.class.getDeclaredMethods()) {
            Due.due("a name of its own: " + each,
                Modifier.isPublic(each.getModifiers()) || !open.contains(each.getName()));
        }
        for (Class<?> inside : ClappedWrong.class.getDeclaredClasses()) {
            Due.due("static: " + inside, Modifier.isStatic(inside.getModifiers()));
            for (Method each : inside.getDeclaredMethods()) {
                Due.due("a name of its own: " + each, !open.contains(each.getName()));
            }
        }
    }

    private static void source() throws Exception {
        String text = Files.readString(Path.of("src/main/java/ClappedWrong.java"));
        String code = text.replaceAll("(?s)/\\*.*?\\*/", " ").replaceAll("//[^\n]*", " ");
        for (String word : FORBIDDEN) {
            Matcher found = Pattern.compile("(?<![A-Za-z])" + Pattern.quote(word) + "(?![a-z])").matcher(code);
            Due.due("not in the source: " + word, !found.find());
        }
        Due.due("plain signs", text.chars().allMatch(c -> c == '\n' || c >= 32 && c < 127));
    }
}
