import java.lang.reflect.Constructor;
import java.lang.reflect.Field;
import java.lang.reflect.Member;
import java.lang.reflect.Method;
import java.lang.reflect.Modifier;
import java.util.Arrays;
import java.util.TreeSet;

/** The public face: its constants, its constructor and its methods with their throws clauses, and nothing else. */
public final class FaceTest {
    private static final String[] CONSTANTS = {
        "NONE -1", "EMPTY 0", "SIEGE 0", "CROSS 1", "DIGITS 2", "LUX 3", "TURN 0", "FLIP 1", "COMPLEMENT 2", "DOWN 3",
        "RIGHT 4", "PAIRS 5", "FULL 1", "ROWS 2", "COLUMNS 4", "DIAGONALS 8", "BROKEN 16", "OPPOSITE 32", "NORMAL 64",
        "POWERS 128",
    };
    private static final String[] METHODS = {
        "int square(int) IllegalArgumentException IllegalStateException",
        "int put(int int int int) IndexOutOfBoundsException IllegalArgumentException",
        "int at(int int int) IndexOutOfBoundsException",
        "int make(int int) IllegalArgumentException IllegalStateException",
        "int laws(int) IndexOutOfBoundsException",
        "int sum(int int int) IndexOutOfBoundsException IllegalArgumentException",
        "int change(int int int) IndexOutOfBoundsException IllegalArgumentException IllegalStateException",
        "boolean same(int int) IndexOutOfBoundsException",
        "int least(int int int) IndexOutOfBoundsException",
        "int kin(int) IndexOutOfBoundsException",
        "int classes()",
        "int completions(int) IndexOutOfBoundsException IllegalStateException",
        "int completion(int int int int) IndexOutOfBoundsException IllegalArgumentException IllegalStateException",
        "long estimate(int int) IndexOutOfBoundsException IllegalArgumentException IllegalStateException",
        "int givens(int boolean) IndexOutOfBoundsException IllegalStateException",
        "int slip(int int) IndexOutOfBoundsException IllegalArgumentException",
        "boolean orthogonal(int int) IndexOutOfBoundsException IllegalStateException",
        "int stack(int int) IndexOutOfBoundsException IllegalStateException",
        "int product(int int) IndexOutOfBoundsException IllegalStateException",
        "int crossings(int int) IndexOutOfBoundsException IllegalArgumentException IllegalStateException",
        "int dimension(int int) IllegalArgumentException",
    };

    public static void main(String[] args) throws IllegalAccessException {
        classIsPublicAndFinal();
        constantsAreDue();
        methodsAreDue();
        Check.end("FaceTest");
    }

    private static void classIsPublicAndFinal() {
        int modifiers = LoshuHall.class.getModifiers();
        Check.holds("the class is public and final", Modifier.isPublic(modifiers) && Modifier.isFinal(modifiers));
        Constructor<?>[] constructors = LoshuHall.class.getDeclaredConstructors();
        Check.due("constructors", 1, constructors.length);
        Check.holds("the constructor is public, without arguments",
            Modifier.isPublic(constructors[0].getModifiers()) && constructors[0].getParameterCount() == 0);
        for (Class<?> inside : LoshuHall.class.getDeclaredClasses()) {
            int of = inside.getModifiers();
            Check.holds(inside + " is static and not public",
                Modifier.isStatic(of) && !Modifier.isPublic(of) && !Modifier.isProtected(of));
        }
    }

    private static boolean isHidden(Member member) {
        return Modifier.isPrivate(member.getModifiers()) || member.isSynthetic();
    }

    private static void constantsAreDue() throws IllegalAccessException {
        TreeSet<String> due = new TreeSet<>(Arrays.asList(CONSTANTS));
        for (Field field : LoshuHall.class.getDeclaredFields()) {
            if (!isHidden(field)) {
                int modifiers = field.getModifiers();
                Check.holds(field + " is a constant",
                    Modifier.isPublic(modifiers) && Modifier.isStatic(modifiers) && Modifier.isFinal(modifiers));
                Check.holds(field + " is in the face", due.remove(field.getName() + " " + field.getInt(null)));
            }
        }
        Check.due("constants that are missing", 0, due.size());
    }

    private static void methodsAreDue() {
        TreeSet<String> due = new TreeSet<>(Arrays.asList(METHODS));
        TreeSet<String> names = new TreeSet<>();
        for (Method method : LoshuHall.class.getDeclaredMethods()) {
            if (!isHidden(method)) {
                Check.holds(method + " is public",
                    Modifier.isPublic(method.getModifiers()) && !Modifier.isStatic(method.getModifiers()));
                Check.holds(method + " is in the face", due.remove(wordsOf(method)));
                names.add(method.getName());
            }
        }
        Check.due("methods that are missing", 0, due.size());
        noPrivateMethodBears(names, LoshuHall.class);
        for (Class<?> inside : LoshuHall.class.getDeclaredClasses()) {
            noPrivateMethodBears(names, inside);
        }
    }

    private static void noPrivateMethodBears(TreeSet<String> names, Class<?> in) {
        for (Method method : in.getDeclaredMethods()) {
            if (in != LoshuHall.class || isHidden(method)) {
                Check.holds(method + " has a name of its own", !names.contains(method.getName()));
            }
        }
    }

    private static String wordsOf(Method method) {
        StringBuilder words = new StringBuilder(method.getReturnType() + " " + method.getName() + "(");
        for (Class<?> type : method.getParameterTypes()) {
            words.append(words.charAt(words.length() - 1) == '(' ? "" : " ").append(type);
        }
        words.append(")");
        for (Class<?> type : method.getExceptionTypes()) {
            words.append(" ").append(type.getSimpleName());
        }
        return words.toString();
    }
}
