import java.io.IOException;
import java.lang.reflect.Constructor;
import java.lang.reflect.Field;
import java.lang.reflect.Method;
import java.lang.reflect.Modifier;
import java.nio.file.Files;
import java.nio.file.Path;
import java.util.Set;
import java.util.TreeSet;
import java.util.regex.Matcher;
import java.util.regex.Pattern;

/** The face is the document's and no more; the source keeps to the rules that can be seen in it. */
public final class FaceTest {
    private static final Set<String> METHODS = new TreeSet<>(Set.of(
            "int cause(int,int,int)", "int link(int,int,int)", "int ofCause(int,int)",
            "int ofFinding(int,int)", "int tell(int,int)", "int withdraw(int)", "int back()",
            "int anew()", "int explanation(int,int)", "long weight(int)", "long share(int,int)",
            "int needs(int,int)", "int sets(int)", "long belief(int,int)", "int fewest(int)",
            "int covers(int)", "int unexplained()", "long split(int,int)", "int next()",
            "int would(int,int)", "int plan(int,int)", "int many(int)"));
    private static final Set<String> CONSTANTS = Set.of("UNKNOWN", "OUTSIDE", "STATE", "NONE", "LOST");

    public static void main(String[] args) throws Exception {
        constants();
        members();
        classesInside();
        source();
        Due.end();
    }

    private static void constants() {
        Due.is("UNKNOWN", FewestCauses.UNKNOWN, -1);
        Due.is("OUTSIDE", FewestCauses.OUTSIDE, -2);
        Due.is("STATE", FewestCauses.STATE, -3);
        Due.is("NONE", FewestCauses.NONE, -9);
        Due.is("LOST", FewestCauses.LOST, Long.MIN_VALUE);
    }

    private static void members() {
        int kind = FewestCauses.class.getModifiers();
        Due.holds("public and final", Modifier.isPublic(kind) && Modifier.isFinal(kind));
        Set<String> found = new TreeSet<>();
        for (Method m : FewestCauses.class.getDeclaredMethods()) {
            if (!Modifier.isPrivate(m.getModifiers())) {
                found.add(signature(m));
                Due.holds(m + " is public", Modifier.isPublic(m.getModifiers()));
            } else {
                Due.holds(m + " has a name of its own", !isPublicName(m.getName()));
            }
        }
        Due.holds("the methods are the document's: " + found, found.equals(METHODS));
        for (Field f : FewestCauses.class.getDeclaredFields()) {
            boolean told = CONSTANTS.contains(f.getName());
            Due.holds(f + " is public if told, else private",
                    told ? Modifier.isPublic(f.getModifiers()) : Modifier.isPrivate(f.getModifiers()));
        }
        Constructor<?>[] made = FewestCauses.class.getDeclaredConstructors();
        Due.holds("one constructor", made.length == 1 && Modifier.isPublic(made[0].getModifiers())
                && made[0].getParameterCount() == 0);
    }

    private static void classesInside() {
        for (Class<?> inside : FewestCauses.class.getDeclaredClasses()) {
            Due.holds(inside + " is static", Modifier.isStatic(inside.getModifiers()));
            for (Method m : inside.getDeclaredMethods()) {
                Due.holds(m + " has a name of its own", !isPublicName(m.getName()));
                Due.holds(m + " takes at most seven", m.getParameterCount() <= 7);
            }
            for (Field f : inside.getDeclaredFields()) {
                int kind = f.getModifiers();
                Due.holds(f + " is final if static", !Modifier.isStatic(kind) || Modifier.isFinal(kind));
            }
        }
    }

    private static void source() throws IOException {
        String text = Files.readString(Path.of("src/main/java/FewestCauses.java"));
        String code = text.replaceAll("(?s)/\\*.*?\\*/", " ").replaceAll("//[^\n]*", " ");
        Matcher word = Pattern.compile(
                "\\b(throw|throws|try|catch|synchronized|assert|import|package|volatile|Exact)\\b|->|::")
                .matcher(code);
        Due.holds("no word that the rules leave out", !word.find());
        Due.holds("plain signs alone", text.chars().allMatch(c -> c == '\n' || (c >= 32 && c < 127)));
    }

    private static boolean isPublicName(String name) {
        return METHODS.stream().anyMatch(m -> m.contains(" " + name + "("));
    }

    private static String signature(Method m) {
        StringBuilder s = new StringBuilder(m.getReturnType().getName()).append(' ')
                .append(m.getName()).append('(');
        for (int i = 0; i < m.getParameterCount(); i++) {
            s.append(i == 0 ? "" : ",").append(m.getParameterTypes()[i].getName());
        }
        return s.append(')').toString();
    }
}
