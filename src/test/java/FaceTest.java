import java.lang.reflect.Constructor;
import java.lang.reflect.Field;
import java.lang.reflect.Member;
import java.lang.reflect.Method;
import java.lang.reflect.Modifier;
import java.util.Set;
import java.util.TreeSet;

/** The public face is the document's, and nothing beside it is seen from outside. */
public final class FaceTest {
    private static final Set<String> METHODS = Set.of(
        "feed 1", "end 1", "text 0", "fault 0", "rule 1", "group 2", "inode 2", "block 2", "fragment 2", "find 2",
        "entry 2", "where 2", "make 3", "grow 2", "shrink 2", "remove 1", "move 3", "gather 1", "draw 2", "flip 1",
        "check 1", "mend 0", "keep 1", "back 1", "count 1");

    public static void main(String[] args) throws IllegalAccessException {
        Due due = new Due("FaceTest");
        Class<?> face = SpreadGroups.class;
        due.is("public and final", face.getModifiers() & (Modifier.PUBLIC | Modifier.FINAL), Modifier.PUBLIC | Modifier.FINAL);
        Set<String> methods = new TreeSet<>();
        for (Method method : face.getDeclaredMethods()) {
            String name = method.getName() + " " + method.getParameterCount();
            if (isSeen(method)) {
                methods.add(name);
                due.is(name + " answers an int", method.getReturnType() == int.class ? 1 : 0, 1);
                due.is(name + " is an object's", Modifier.isStatic(method.getModifiers()) ? 1 : 0, 0);
            }
        }
        due.is("the methods " + methods, methods.equals(METHODS) ? 1 : 0, 1);
        Set<String> constants = new TreeSet<>();
        for (Field field : face.getDeclaredFields()) {
            if (isSeen(field)) {
                constants.add(field.getName() + " " + field.getInt(null));
            }
        }
        due.is("the constants " + constants, constants.equals(Set.of("BAD -1", "STATE -2", "FULL -3", "NONE -4")) ? 1 : 0, 1);
        int made = 0;
        for (Constructor<?> constructor : face.getDeclaredConstructors()) {
            made += isSeen(constructor) && constructor.getParameterCount() == 0 ? 1 : 100;
        }
        due.is("the constructors", made, 1);
        due.end();
    }

    private static boolean isSeen(Member member) {
        return !member.isSynthetic() && !Modifier.isPrivate(member.getModifiers());
    }
}
