import java.lang.reflect.Constructor;
import java.lang.reflect.Field;
import java.lang.reflect.Method;
import java.lang.reflect.Modifier;
import java.util.ArrayList;
import java.util.List;
import java.util.Set;
import java.util.TreeSet;
import java.util.stream.Stream;

/** The public face as the document prints it and nothing beside it (LANGUAGE 1), and promise 1. */
final class FaceTest {
    private static final String FACE = "row3 set3 copy5 drop1 feed1 post0 fault0 days1 say2 unsay2 back1 strap1 limit1"
            + " undo0 letter2 ounces1 ahead3 later2 when1 lighten3 guess2 load2 share2 fits5 slips5 drawn3 image1"
            + " restore1 kind1 as2 ask2 trace1 count1 status0";

    public static void main(String[] args) {
        Check check = new Check();
        face(check);
        names(check);
        staticFields(check);
        newObject(check);
        check.end();
    }

    private static void face(Check check) {
        Set<String> due = new TreeSet<>(Set.of(FACE.split(" ")));
        Set<String> got = new TreeSet<>();
        for (Method m : LetterOunces.class.getDeclaredMethods()) {
            if (Modifier.isPublic(m.getModifiers())) {
                got.add(m.getName() + m.getParameterCount());
                check.due(m + " answers an int", m.getReturnType() == int.class ? 1 : 0, 1);
            } else {
                check.due(m + " is private", Modifier.isPrivate(m.getModifiers()) ? 1 : 0, 1);
            }
        }
        check.due("public methods " + got, got.equals(due) ? 1 : 0, 1);
        Set<String> constants = new TreeSet<>();
        for (Field f : LetterOunces.class.getDeclaredFields()) {
            if (!Modifier.isPrivate(f.getModifiers())) {
                constants.add(f.getName());
            }
        }
        check.due("constants " + constants, constants.equals(Set.of("NONE", "BAD", "STATE", "FULL")) ? 1 : 0, 1);
        for (Class<?> inside : LetterOunces.class.getDeclaredClasses()) {
            check.due(inside + " is static", Modifier.isStatic(inside.getModifiers()) ? 1 : 0, 1);
        }
        Constructor<?>[] makers = LetterOunces.class.getDeclaredConstructors();
        check.due("constructors", makers.length, 1);
        check.due("its parameters", makers[0].getParameterCount(), 0);
        check.due("it is public", Modifier.isPublic(makers[0].getModifiers()) ? 1 : 0, 1);
        check.due("the class is final", Modifier.isFinal(LetterOunces.class.getModifiers()) ? 1 : 0, 1);
        check.due("NONE", LetterOunces.NONE, Check.NONE);
        check.due("BAD", LetterOunces.BAD, Check.BAD);
        check.due("STATE", LetterOunces.STATE, Check.STATE);
        check.due("FULL", LetterOunces.FULL, Check.FULL);
    }

    private static List<Class<?>> classes() {
        List<Class<?>> classes = new ArrayList<>(List.of(LetterOunces.class.getDeclaredClasses()));
        classes.add(LetterOunces.class);
        return classes;
    }

    /** LANGUAGE 1: no other method bears the name of a public one, and LANGUAGE 11: some twenty fields. */
    private static void names(Check check) {
        Set<String> names = new TreeSet<>(Set.of(FACE.replaceAll("\\d", "").split(" ")));
        for (Class<?> c : classes()) {
            for (Method m : c.getDeclaredMethods()) {
                boolean isPublic = c == LetterOunces.class && Modifier.isPublic(m.getModifiers());
                check.due(m + " bears a name of the face", names.contains(m.getName()) && !isPublic ? 1 : 0, 0);
            }
            long fields = Stream.of(c.getDeclaredFields()).filter(f -> !Modifier.isStatic(f.getModifiers())).count();
            check.due(c + " has more than twenty fields", fields > 20 ? 1 : 0, 0);
        }
    }

    /** LANGUAGE 5: constants and arrays of numbers. */
    private static void staticFields(Check check) {
        Set<Class<?>> types = Set.of(int.class, long.class, boolean.class, char.class, String.class, int[].class,
                long[].class, char[].class, byte[].class);
        for (Class<?> c : classes()) {
            for (Field f : c.getDeclaredFields()) {
                if (Modifier.isStatic(f.getModifiers())) {
                    boolean isConstant = Modifier.isFinal(f.getModifiers()) && types.contains(f.getType());
                    check.due(f + " is a constant", isConstant ? 1 : 0, 1);
                }
            }
        }
    }

    private static void newObject(Check check) {
        LetterOunces x = new LetterOunces();
        for (int what = 0; what <= 9; what++) {
            check.due("new: count(" + what + ")", x.count(what), 0);
        }
        check.due("new: status()", x.status(), 0);
        check.due("new: fault()", x.fault(), 0);
        check.due("new: trace(0)", x.trace(0), Check.NONE);
        check.due("new: undo()", x.undo(), Check.STATE);
        check.due("new: letter(0, 0)", x.letter(0, 0), Check.BAD);
        check.due("new: ounces(0)", x.ounces(0), Check.BAD);
        check.due("new: days(1)", x.days(1), Check.STATE);
        check.due("new: restore(0)", x.restore(0), Check.STATE);
        check.due("new: restore(1)", x.restore(1), Check.STATE);
        for (int row = 0; row <= 7; row++) {
            check.due("new: drop(" + row + ")", x.drop(row), Check.NULL);
        }
    }
}
