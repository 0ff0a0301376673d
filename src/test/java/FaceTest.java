import java.lang.reflect.Constructor;
import java.lang.reflect.Field;
import java.lang.reflect.Member;
import java.lang.reflect.Method;
import java.lang.reflect.Modifier;
import java.lang.reflect.Parameter;
import java.util.Arrays;
import java.util.TreeSet;

/** The public face: its constants, its constructor and its methods with their parameters and throws clauses, and nothing else. */
public final class FaceTest {
    private static final String[] CONSTANTS = {
        "NONE -1", "EMPTY 0", "SIEGE 0", "CROSS 1", "DIGITS 2", "LUX 3", "TURN 0", "FLIP 1", "COMPLEMENT 2", "DOWN 3",
        "RIGHT 4", "PAIRS 5", "FULL 1", "ROWS 2", "COLUMNS 4", "DIAGONALS 8", "BROKEN 16", "OPPOSITE 32", "NORMAL 64",
        "POWERS 128",
    };
    private static final String[] METHODS = {
        "int square(int side) throws IllegalArgumentException, IllegalStateException",
        "int put(int square, int row, int column, int number) throws IndexOutOfBoundsException, IllegalArgumentException",
        "int at(int square, int row, int column) throws IndexOutOfBoundsException",
        "int make(int maker, int side) throws IllegalArgumentException, IllegalStateException",
        "int laws(int square) throws IndexOutOfBoundsException",
        "int sum(int square, int kind, int line) throws IndexOutOfBoundsException, IllegalArgumentException",
        "int change(int square, int change, int by)"
            + " throws IndexOutOfBoundsException, IllegalArgumentException, IllegalStateException",
        "boolean same(int square, int other) throws IndexOutOfBoundsException",
        "int least(int square, int row, int column) throws IndexOutOfBoundsException",
        "int kin(int square) throws IndexOutOfBoundsException",
        "int classes()",
        "int completions(int square) throws IndexOutOfBoundsException, IllegalStateException",
        "int completion(int square, int which, int row, int column)"
            + " throws IndexOutOfBoundsException, IllegalArgumentException, IllegalStateException",
        "long estimate(int square, int seed) throws IndexOutOfBoundsException, IllegalArgumentException, IllegalStateException",
        "int givens(int square, boolean isSet) throws IndexOutOfBoundsException, IllegalStateException",
        "int slip(int square, int what) throws IndexOutOfBoundsException, IllegalArgumentException",
        "boolean orthogonal(int square, int other) throws IndexOutOfBoundsException, IllegalStateException",
        "int stack(int square, int other) throws IndexOutOfBoundsException, IllegalStateException",
        "int product(int square, int other) throws IndexOutOfBoundsException, IllegalStateException",
        "int crossings(int square, int total)"
            + " throws IndexOutOfBoundsException, IllegalArgumentException, IllegalStateException",
        "int dimension(int side, int laws) throws IllegalArgumentException",
    };

    public static void main(String[] args) throws IllegalAccessException {
        classIsPublicAndFinal();
        constantsAreDue();
        methodsAreDue();
        Check.end("FaceTest");
    }

    private static void classIsPublicAndFinal() {
        int modifiers = LoshuHall.class.getModifiers();
        Check.holds("the class is public and final", Modifier.isPublic(modifiers) && Modifier.isFinal(modifiers));
        Constructor<?>[] constructors = LoshuHall.class.getDeclaredConstructors();
        Check.due("constructors", 1, constructors.length);
        Check.holds("the constructor is public, without arguments",
            Modifier.isPublic(constructors[0].getModifiers()) && constructors[0].getParameterCount() == 0);
        for (Class<?> inside : LoshuHall.class.getDeclaredClasses()) {
            int of = inside.getModifiers();
            Check.holds(inside + " is static and not public",
                Modifier.isStatic(of) && !Modifier.isPublic(of) && !Modifier.isProtected(of));
        }
    }

    private static boolean isHidden(Member member) {
        return Modifier.isPrivate(member.getModifiers()) || member.isSynthetic();
    }

    private static void constantsAreDue() throws IllegalAccessException {
        TreeSet<String> due = new TreeSet<>(Arrays.asList(CONSTANTS));
        for (Field field : LoshuHall.class.getDeclaredFields()) {
            if (!isHidden(field)) {
                int modifiers = field.getModifiers();
                Check.holds(field + " is a constant", field.getType() == int.class
                    && Modifier.isPublic(modifiers) && Modifier.isStatic(modifiers) && Modifier.isFinal(modifiers));
                Check.holds(field + " is in the face", due.remove(field.getName() + " " + field.getInt(null)));
            }
        }
        Check.due("constants that are missing", 0, due.size());
    }

    private static void methodsAreDue() {
        TreeSet<String> due = new TreeSet<>(Arrays.asList(METHODS));
        TreeSet<String> names = new TreeSet<>();
        for (Method method : LoshuHall.class.getDeclaredMethods()) {
            if (!isHidden(method)) {
                Check.holds(method + " is public",
                    Modifier.isPublic(method.getModifiers()) && !Modifier.isStatic(method.getModifiers()));
                Check.holds(method + " is in the face", due.remove(wordsOf(method)));
                names.add(method.getName());
            }
        }
        Check.due("methods that are missing", 0, due.size());
        noPrivateMethodBears(names, LoshuHall.class);
        for (Class<?> inside : LoshuHall.class.getDeclaredClasses()) {
            noPrivateMethodBears(names, inside);
        }
    }

    private static void noPrivateMethodBears(TreeSet<String> names, Class<?> in) {
        for (Method method : in.getDeclaredMethods()) {
            if (in != LoshuHall.class || isHidden(method)) {
                Check.holds(method + " has a name of its own", !names.contains(method.getName()));
            }
        }
    }

    /** As the document words it; the names of the parameters are there if the class is compiled with -parameters. */
    private static String wordsOf(Method method) {
        StringBuilder words = new StringBuilder(method.getReturnType() + " " + method.getName() + "(");
        for (Parameter parameter : method.getParameters()) {
            words.append(words.charAt(words.length() - 1) == '(' ? "" : ", ").append(parameter.getType());
            words.append(" ").append(parameter.getName());
        }
        words.append(")");
        Class<?>[] thrown = method.getExceptionTypes();
        for (int i = 0; i < thrown.length; i++) {
            words.append(i == 0 ? " throws " : ", ").append(thrown[i].getSimpleName());
        }
        return words.toString();
    }
}
