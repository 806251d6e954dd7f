import java.lang.reflect.Field;
import java.lang.reflect.Method;
import java.lang.reflect.Modifier;
import java.util.Arrays;
import java.util.TreeSet;

/** The members that can be seen from outside are those of the document, and no others. */
final class FaceTest {
    private static final String[] METHODS = {"write 1", "wipe 0", "fault 0", "lay 0", "wrong 2", "bell 2", "loud 2", "covered 1",
        "heard 1", "cast 3", "hang 3", "takeDown 1", "melt 1", "pass 1", "undo 0", "forgives 1", "by 1", "cheap 3", "best 2",
        "hours 1", "hush 1", "note 2", "forget 0", "which 0", "casts 2", "snow 4", "year 3", "keep 0", "back 0", "count 1"};

    public static void main(String[] args) {
        Due due = new Due();
        TreeSet<String> seen = new TreeSet<>();
        for (Method method : ApologyBells.class.getDeclaredMethods()) {
            if (!Modifier.isPrivate(method.getModifiers())) {
                seen.add(method.getName() + " " + method.getParameterCount());
                due.is(method + " is public, an int's and no other", method.getModifiers(), Modifier.PUBLIC);
                due.is(method + " answers an int", method.getReturnType() == int.class ? 1 : 0, 1);
            }
        }
        due.is("the methods " + seen, seen.equals(new TreeSet<>(Arrays.asList(METHODS))) ? 1 : 0, 1);
        TreeSet<String> constants = new TreeSet<>();
        for (Field field : ApologyBells.class.getDeclaredFields()) {
            if (!Modifier.isPrivate(field.getModifiers())) {
                constants.add(field.getName());
            }
        }
        due.is("the constants " + constants, constants.equals(new TreeSet<>(Arrays.asList("BAD", "NO", "FULL", "NONE"))) ? 1 : 0, 1);
        due.is("BAD", ApologyBells.BAD, -1);
        due.is("NO", ApologyBells.NO, -2);
        due.is("FULL", ApologyBells.FULL, -3);
        due.is("NONE", ApologyBells.NONE, -4);
        due.is("the constructors", ApologyBells.class.getDeclaredConstructors().length, 1);
        due.is("the class is public and final", ApologyBells.class.getModifiers(), Modifier.PUBLIC | Modifier.FINAL);
        due.end();
    }
}
