import java.lang.reflect.Constructor;
import java.lang.reflect.Field;
import java.lang.reflect.Member;
import java.lang.reflect.Method;
import java.lang.reflect.Modifier;
import java.util.ArrayList;
import java.util.Collections;
import java.util.List;

/** The public face is the document's, and nothing but it can be seen from outside. */
public final class FaceTest {
    private static final String[] FACE = {
        "int addTrack(int, int) IllegalArgumentException IllegalStateException",
        "int connect(int, int) IndexOutOfBoundsException IllegalArgumentException IllegalStateException",
        "int disconnect(int, int) IndexOutOfBoundsException IllegalStateException",
        "int addCar(int, int, int, int, boolean) IndexOutOfBoundsException IllegalArgumentException"
            + " IllegalStateException UnsupportedOperationException",
        "int shunt(int, int, int) IndexOutOfBoundsException IllegalArgumentException IllegalStateException"
            + " NoSuchElementException UnsupportedOperationException",
        "int repair(int) NoSuchElementException IllegalStateException",
        "int depart(int, int) IndexOutOfBoundsException IllegalArgumentException IllegalStateException"
            + " UnsupportedOperationException",
        "int trackCount()",
        "int freeLength(int) IndexOutOfBoundsException",
        "int carsOn(int) IndexOutOfBoundsException",
        "int weightOn(int) IndexOutOfBoundsException",
        "int carAt(int, int) IndexOutOfBoundsException NoSuchElementException",
        "boolean isSorted(int) IndexOutOfBoundsException",
        "int disorder(int) IndexOutOfBoundsException",
        "int disorderByInsertion(int) IndexOutOfBoundsException",
        "int trainLength(int) IndexOutOfBoundsException",
        "int trackAtRank(int) NoSuchElementException",
        "boolean areConnected(int, int) IndexOutOfBoundsException",
        "int routeLength(int, int) IndexOutOfBoundsException NoSuchElementException",
        "int routeLengthByMatrix(int, int) IndexOutOfBoundsException NoSuchElementException",
        "int routeTrack(int, int, int) IndexOutOfBoundsException NoSuchElementException",
        "int shuntingTime(int, int, int) IndexOutOfBoundsException IllegalArgumentException NoSuchElementException",
        "int nearestFreeTrack(int) IndexOutOfBoundsException NoSuchElementException",
        "int carCount()",
        "boolean isInYard(int)",
        "int trackOf(int) NoSuchElementException",
        "int carsBehind(int) NoSuchElementException",
        "int destination(int) NoSuchElementException",
        "boolean isDefective(int) NoSuchElementException",
        "int carsFor(int) IllegalArgumentException",
        "int carAtRank(int) NoSuchElementException",
        "long time()",
        "int moveCount()",
        "int departedCars()",
        "long departedWeight()",
        "double meanMoveTime() ArithmeticException",
        "float usedShare() ArithmeticException",
        "boolean isConsistent()",
        "int append(char) IllegalStateException",
        "int run() IllegalArgumentException UnsupportedOperationException",
        "int errorPosition() NoSuchElementException",
        "int failedCommand() NoSuchElementException",
        "int writeTrack(int) IndexOutOfBoundsException",
        "char outputAt(int) IndexOutOfBoundsException",
        "int undo() IllegalStateException",
        "void save()",
        "void restore() IllegalStateException",
    };

    public static void main(String[] arguments) {
        Class<?> yard = ClassificationYard.class;
        Check.same("modifiers of the class", Modifier.PUBLIC | Modifier.FINAL, yard.getModifiers());
        checkConstructors(yard);
        checkMethods(yard);
        for (Field field : yard.getDeclaredFields()) {
            Check.same("field " + field.getName() + " is private", true, isPrivate(field));
        }
        for (Class<?> inside : yard.getDeclaredClasses()) {
            int seen = inside.getModifiers() & (Modifier.PUBLIC | Modifier.PROTECTED);
            Check.same("class " + inside.getName() + " is hidden", 0, seen);
            Check.same("class " + inside.getName() + " is static", true, Modifier.isStatic(inside.getModifiers()));
        }
        Check.finish("FaceTest");
    }

    private static void checkConstructors(Class<?> yard) {
        Constructor<?>[] constructors = yard.getDeclaredConstructors();
        Check.same("number of constructors", 1, constructors.length);
        Check.same("parameters of the constructor", 0, constructors[0].getParameterCount());
        Check.same("modifiers of the constructor", Modifier.PUBLIC, constructors[0].getModifiers());
    }

    private static void checkMethods(Class<?> yard) {
        List<String> seen = new ArrayList<>();
        for (Method method : yard.getDeclaredMethods()) {
            if (!isPrivate(method) && !method.isSynthetic()) {
                Check.same("modifiers of " + method.getName(), Modifier.PUBLIC, method.getModifiers());
                seen.add(describe(method));
            }
        }
        List<String> due = new ArrayList<>(List.of(FACE));
        Collections.sort(due);
        Collections.sort(seen);
        Check.same("the face", due, seen);
    }

    private static boolean isPrivate(Member member) {
        return Modifier.isPrivate(member.getModifiers());
    }

    private static String describe(Method method) {
        StringBuilder text = new StringBuilder();
        text.append(method.getReturnType().getSimpleName()).append(' ').append(method.getName()).append('(');
        String comma = "";
        for (Class<?> type : method.getParameterTypes()) {
            text.append(comma).append(type.getSimpleName());
            comma = ", ";
        }
        text.append(')');
        for (Class<?> type : method.getExceptionTypes()) {
            text.append(' ').append(type.getSimpleName());
        }
        return text.toString();
    }
}
