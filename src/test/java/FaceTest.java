import java.lang.reflect.Constructor;
import java.lang.reflect.Field;
import java.lang.reflect.Member;
import java.lang.reflect.Method;
import java.lang.reflect.Modifier;
import java.util.Arrays;
import java.util.Set;
import java.util.TreeSet;

/** The public face of the class: as the document says, and nothing beside it. */
public final class FaceTest {
    private static final String[] METHODS = {
        "int node(int,int,int)", "int edge(int,int,int)", "int say(int)", "int wipe()", "int fault()",
        "int net()", "int jobs(int)", "int told(int,int)", "int carry(int,int)", "int run(int,int)",
        "int reset()", "int uneven(int)", "int share(int,int)", "long potential()",
        "long ideal(int,int,int)", "int until(int,int)", "int ring(int,int)", "int image(int)",
        "int restore(int)", "int count(int)",
    };
    private static final String[] CONSTANTS = {"UNKNOWN", "OUTSIDE", "STATE", "FULL", "NONE", "FAULT"};
    private static final int[] VALUES = {-1, -2, -3, -4, -6, -7};

    public static void main(String[] args) throws ReflectiveOperationException {
        Check check = new Check("FaceTest");
        int shape = JobSpread.class.getModifiers();
        check.holds("the class is public and final", Modifier.isPublic(shape) && Modifier.isFinal(shape));
        for (int i = 0; i < CONSTANTS.length; i++) {
            Field constant = JobSpread.class.getField(CONSTANTS[i]);
            check.holds(CONSTANTS[i] + " is a static final int", Modifier.isStatic(constant.getModifiers())
                    && Modifier.isFinal(constant.getModifiers()) && constant.getType() == int.class);
            check.due(CONSTANTS[i], constant.getInt(null), VALUES[i]);
        }
        Set<String> names = new TreeSet<>();
        for (Method method : JobSpread.class.getDeclaredMethods()) {
            if (isOpen(method)) {
                names.add(text(method));
            }
        }
        check.holds("the methods are the document's: " + names,
                names.equals(new TreeSet<>(Arrays.asList(METHODS))));
        int fields = 0;
        for (Field field : JobSpread.class.getDeclaredFields()) {
            fields += isOpen(field) ? 1 : 0;
        }
        check.due("fields that are not private", fields, CONSTANTS.length);
        Constructor<?>[] constructors = JobSpread.class.getDeclaredConstructors();
        check.due("constructors", constructors.length, 1);
        check.holds("the constructor is public and takes nothing",
                Modifier.isPublic(constructors[0].getModifiers()) && constructors[0].getParameterCount() == 0);
        check.end();
    }

    private static boolean isOpen(Member member) {
        return !Modifier.isPrivate(member.getModifiers()) && !member.isSynthetic();
    }

    private static String text(Method method) {
        StringBuilder text = new StringBuilder();
        text.append(method.getReturnType()).append(' ').append(method.getName()).append('(');
        for (int i = 0; i < method.getParameterCount(); i++) {
            text.append(i == 0 ? "" : ",").append(method.getParameterTypes()[i]);
        }
        return text.append(')').toString();
    }
}
