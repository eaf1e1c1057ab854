import java.io.IOException;
import java.lang.reflect.Constructor;
import java.lang.reflect.Field;
import java.lang.reflect.Method;
import java.lang.reflect.Modifier;
import java.nio.file.Files;
import java.nio.file.Path;
import java.util.Arrays;
import java.util.Set;
import java.util.TreeSet;
import java.util.regex.Matcher;
import java.util.regex.Pattern;

/** The public face of the document, and those rules of LANGUAGE.md that can be seen from names and words. */
public final class FaceTest {
    private static final String[] CONSTANTS = {"NO_SUCH -1", "BAD_VALUE -2", "BAD_TEXT -3", "TOO_MANY -4", "NOT_POSSIBLE -5", "NONE -6",
        "START 0", "CREEP 1", "HOLE 2", "AGE 3", "DAY 4", "NIGHT 5"};
    private static final String[] METHODS = {"int set(int,int)", "int meter(int)", "int load(int,int)", "int turn(int)", "int tamper(int)",
        "int visit(int)", "int pass(int)", "int write(int)", "int sign(int)", "int of(int,int)", "int ofLoad(int,int)",
        "long misses(int)", "int fed(int)", "int count(int)", "int bill(int)", "int turnsIn(int)", "int wouldTurn(int,int,int)",
        "int worst()", "int lags(int)", "int put(long)", "int wipe()", "int fault()", "int carryOut()", "int undo()",
        "int save(int)", "int restore(int)"};
    private static final String[] WORDS = {"throw", "throws", "try", "catch", "synchronized", "assert", "import", "package", "native",
        "volatile", "transient", "var", "->", "::", "System", "Math\\.\\w*Exact", "static\\s*\\{"};
    private static final Path SOURCE = Path.of("src/main/java/EnergyDiscs.java");

    private static void constants() throws IllegalAccessException {
        Set<String> found = new TreeSet<>();
        for (Field field : EnergyDiscs.class.getDeclaredFields()) {
            int kind = field.getModifiers();
            if (!Modifier.isPrivate(kind)) {
                boolean constant = Modifier.isPublic(kind) && Modifier.isStatic(kind) && field.getType() == int.class;
                found.add(field.getName() + " " + (constant ? field.getInt(null) : "which is no constant"));
            }
            Check.holds(field.getName() + " is final, or not static", Modifier.isFinal(kind) || !Modifier.isStatic(kind));
        }
        Check.same("the constants", found.toString(), new TreeSet<>(Arrays.asList(CONSTANTS)).toString());
    }

    private static void methods() {
        Set<String> found = new TreeSet<>();
        Set<String> names = new TreeSet<>();
        for (Method method : EnergyDiscs.class.getDeclaredMethods()) {
            if (!Modifier.isPrivate(method.getModifiers())) {
                String types = Arrays.toString(Arrays.stream(method.getParameterTypes()).map(Class::getName).toArray());
                String listed = types.substring(1, types.length() - 1).replace(" ", "");
                found.add(method.getReturnType().getName() + " " + method.getName() + "(" + listed + ")");
                names.add(method.getName());
            }
        }
        Check.same("the methods", found.toString(), new TreeSet<>(Arrays.asList(METHODS)).toString());
        for (Method method : EnergyDiscs.class.getDeclaredMethods()) {
            Check.holds(method.getName() + " is public, or bears another name",
                !Modifier.isPrivate(method.getModifiers()) || !names.contains(method.getName()));
        }
        for (Class<?> inside : EnergyDiscs.class.getDeclaredClasses()) {
            for (Method method : inside.getDeclaredMethods()) {
                Check.holds(inside.getName() + "." + method.getName() + " bears another name", !names.contains(method.getName()));
            }
        }
    }

    private static void classes() {
        Check.holds("the class is public and final", EnergyDiscs.class.getModifiers() == (Modifier.PUBLIC | Modifier.FINAL));
        Constructor<?>[] constructors = EnergyDiscs.class.getDeclaredConstructors();
        Check.due("the number of constructors", constructors.length, 1);
        Check.holds("the constructor is public, without parameters",
            Modifier.isPublic(constructors[0].getModifiers()) && constructors[0].getParameterCount() == 0);
        Class<?>[] inside = EnergyDiscs.class.getDeclaredClasses();
        Check.holds("the file has twelve classes at most", inside.length < 12);
        for (Class<?> one : inside) {
            Check.holds(one.getName() + " is private or package-visible, and static",
                Modifier.isStatic(one.getModifiers()) && !Modifier.isPublic(one.getModifiers()) && !Modifier.isProtected(one.getModifiers()));
            long fields = Arrays.stream(one.getDeclaredFields()).filter(field -> !Modifier.isStatic(field.getModifiers())).count();
            Check.holds(one.getName() + " has twenty fields at most", fields <= 20);
        }
    }

    private static void words() throws IOException {
        String code = Files.readString(SOURCE).replaceAll("(?s)/\\*.*?\\*/", " ").replaceAll("//[^\n]*", " ");
        for (String word : WORDS) {
            String pattern = Character.isLetter(word.charAt(0)) && Character.isLetter(word.charAt(word.length() - 1)) ? "\\b" + word + "\\b" : word;
            Matcher matcher = Pattern.compile(pattern).matcher(code);
            Check.holds("the code is without " + word, !matcher.find());
        }
    }

    public static void main(String[] args) throws IllegalAccessException, IOException {
        constants();
        methods();
        classes();
        words();
        Check.end();
    }
}
