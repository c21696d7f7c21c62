import java.lang.reflect.Constructor;
import java.lang.reflect.Field;
import java.lang.reflect.Method;
import java.lang.reflect.Modifier;
import java.util.Arrays;
import java.util.List;
import java.util.TreeSet;

/** The public face: just the constants, the constructor and the methods of the document. */
public final class FaceTest {
    private static final String[] FACE = {
        "addBay 3", "setBay 2", "setStep 4", "setNumber 2", "appendCharacter 1", "clearText 0", "load 0",
        "reserve 4", "cancel 1", "enter 2", "leave 1", "leaveLost 1", "pass 1", "count 1", "bay 2",
        "reservation 2", "car 2", "step 3", "account 1", "nearest 1", "free 2", "fee 2", "minutesLeft 1",
        "freeFor 1", "earliest 2", "undo 0",
    };

    private FaceTest() {
    }

    public static void main(String[] arguments) {
        Check check = new Check("FaceTest");
        check.holds("a public final class", Modifier.isPublic(ParkingGarage.class.getModifiers())
                && Modifier.isFinal(ParkingGarage.class.getModifiers()));
        constants(check);
        constructors(check);
        methods(check);
        fields(check);
        classesInside(check);
        check.end();
    }

    private static void constants(Check check) {
        check.due("INVALID_ARGUMENT", ParkingGarage.INVALID_ARGUMENT, -1);
        check.due("ILLEGAL_STATE", ParkingGarage.ILLEGAL_STATE, -2);
        check.due("CAPACITY_EXCEEDED", ParkingGarage.CAPACITY_EXCEEDED, -3);
        check.due("NONE", ParkingGarage.NONE, -9);
    }

    private static void constructors(Check check) {
        int open = 0;
        for (Constructor<?> constructor : ParkingGarage.class.getDeclaredConstructors()) {
            if (Modifier.isPublic(constructor.getModifiers())) {
                open++;
                check.due("arguments of the constructor", constructor.getParameterCount(), 0);
            }
        }
        check.due("constructors", open, 1);
    }

    private static void methods(Check check) {
        TreeSet<String> want = new TreeSet<>(List.of(FACE));
        TreeSet<String> got = new TreeSet<>();
        for (Method method : ParkingGarage.class.getDeclaredMethods()) {
            if (!Modifier.isPrivate(method.getModifiers()) && !method.isSynthetic()) {
                got.add(method.getName() + " " + method.getParameterCount());
                check.holds(method.getName() + " answers an int", method.getReturnType() == int.class);
                check.holds(method.getName() + " takes int alone",
                        Arrays.stream(method.getParameterTypes()).allMatch(type -> type == int.class));
                check.due(method.getName() + " is public, and not of the class",
                        method.getModifiers() & (Modifier.PUBLIC | Modifier.STATIC), Modifier.PUBLIC);
                check.due(method.getName() + " names no exception", method.getExceptionTypes().length, 0);
            }
        }
        check.holds("methods " + got, got.equals(want));
    }

    private static void fields(Check check) {
        TreeSet<String> got = new TreeSet<>();
        for (Field field : ParkingGarage.class.getDeclaredFields()) {
            if (!Modifier.isPrivate(field.getModifiers()) && !field.isSynthetic()) {
                got.add(field.getName());
                check.due(field.getName() + " is a constant", field.getModifiers(),
                        Modifier.PUBLIC | Modifier.STATIC | Modifier.FINAL);
                check.holds(field.getName() + " is an int", field.getType() == int.class);
            }
        }
        check.holds("fields " + got, got.equals(new TreeSet<>(
                List.of("INVALID_ARGUMENT", "ILLEGAL_STATE", "CAPACITY_EXCEEDED", "NONE"))));
    }

    private static void classesInside(Check check) {
        for (Class<?> inside : ParkingGarage.class.getDeclaredClasses()) {
            check.due(inside.getName() + " is static, and neither public nor protected",
                    inside.getModifiers() & (Modifier.STATIC | Modifier.PUBLIC | Modifier.PROTECTED), Modifier.STATIC);
        }
        check.holds("no class of another one", ParkingGarage.class.getSuperclass() == Object.class
                && ParkingGarage.class.getInterfaces().length == 0);
        check.holds("no package", ParkingGarage.class.getPackageName().isEmpty());
    }
}
