import java.io.IOException;
import java.lang.reflect.Constructor;
import java.lang.reflect.Field;
import java.lang.reflect.Member;
import java.lang.reflect.Method;
import java.lang.reflect.Modifier;
import java.nio.file.Files;
import java.nio.file.Path;
import java.util.Arrays;
import java.util.List;
import java.util.Set;
import java.util.TreeSet;

/** The public face of the class: as the document says, and nothing beside it. Runs in the project's folder. */
public final class FaceTest {
    private static final Sentences T = new Sentences("FaceTest");
    private static final int ALL = Sentences.NO_PROMISE;
    private static final Path SOURCE = Path.of("src/main/java/JobSpread.java");
    private static final String[] METHODS = {
        "int node(int,int,int)", "int edge(int,int,int)", "int say(int)", "int wipe()", "int fault()",
        "int net()", "int jobs(int)", "int told(int,int)", "int carry(int,int)", "int run(int,int)",
        "int reset()", "int uneven(int)", "int share(int,int)", "long potential()",
        "long ideal(int,int,int)", "int until(int,int)", "int ring(int,int)", "int image(int)",
        "int restore(int)", "int count(int)",
    };
    private static final String[] CONSTANTS = {"UNKNOWN", "OUTSIDE", "STATE", "FULL", "NONE", "FAULT"};
    private static final int[] VALUES = {-1, -2, -3, -4, -6, -7};

    public static void main(String[] args) throws ReflectiveOperationException, IOException {
        constants();
        constructor();
        methods();
        asTheDocumentWritesItDown();
        sections();
        T.end();
    }

    private static void constants() throws ReflectiveOperationException {
        T.begin(ALL, "The constants: `UNKNOWN = -1, OUTSIDE = -2, STATE = -3, FULL = -4, NONE = -6, FAULT = -7`: What"
                + " refused calls answer; NONE: there is none.");
        for (int i = 0; i < CONSTANTS.length; i++) {
            Field constant = JobSpread.class.getField(CONSTANTS[i]);
            T.holds(CONSTANTS[i] + " is a static final int", Modifier.isStatic(constant.getModifiers())
                    && Modifier.isFinal(constant.getModifiers()) && constant.getType() == int.class);
            T.holds(CONSTANTS[i] + " is " + VALUES[i], constant.getInt(null) == VALUES[i]);
        }
        int fields = 0;
        for (Field field : JobSpread.class.getDeclaredFields()) {
            fields += isOpen(field) ? 1 : 0;
        }
        T.holds("no other field is open", fields == CONSTANTS.length);
        T.due(new JobSpread(), "jobs(8)", JobSpread.UNKNOWN);
        T.due(new JobSpread(), "count(8)", JobSpread.OUTSIDE);
        T.due(new JobSpread(), "restore(0)", JobSpread.STATE);
        T.due(Nets.full(), "say(97)", JobSpread.FULL);
        T.due(new JobSpread(), "fault()", JobSpread.NONE);
        T.due(Nets.full(), "net()", JobSpread.FAULT);
    }

    private static void constructor() {
        T.begin(ALL, "public JobSpread();");
        int shape = JobSpread.class.getModifiers();
        T.holds("the class is public and final", Modifier.isPublic(shape) && Modifier.isFinal(shape));
        T.holds("it stands in no package", JobSpread.class.getPackageName().isEmpty());
        T.holds("it is no kind of another", JobSpread.class.getSuperclass() == Object.class
                && JobSpread.class.getInterfaces().length == 0);
        Constructor<?>[] constructors = JobSpread.class.getDeclaredConstructors();
        T.holds("there is one constructor", constructors.length == 1);
        T.holds("the constructor is public and takes nothing",
                Modifier.isPublic(constructors[0].getModifiers()) && constructors[0].getParameterCount() == 0);
    }

    private static void methods() {
        T.begin(ALL, "public final class JobSpread");
        Set<String> names = new TreeSet<>();
        for (Method method : JobSpread.class.getDeclaredMethods()) {
            if (isOpen(method)) {
                names.add(text(method));
                T.holds(method + " is public and of the object",
                        Modifier.isPublic(method.getModifiers()) && !Modifier.isStatic(method.getModifiers()));
            }
        }
        T.holds("the methods are the document's: " + names, names.equals(new TreeSet<>(Arrays.asList(METHODS))));
        for (Class<?> inside : JobSpread.class.getDeclaredClasses()) {
            T.holds(inside + " is static and not public", Modifier.isStatic(inside.getModifiers())
                    && !Modifier.isPublic(inside.getModifiers()) && !Modifier.isProtected(inside.getModifiers()));
        }
    }

    private static void asTheDocumentWritesItDown() throws IOException {
        Document document = Document.read();
        if (document == null) {
            return;
        }
        T.begin(ALL, "public int count(int what);");
        List<String> face = document.face();
        T.holds("a line for each, and two more", face.size() == METHODS.length + 4);
        String source = Files.readString(SOURCE);
        int last = -1;
        for (String line : face.subList(0, face.size() - 1)) {
            int at = source.indexOf(line.replaceAll("\\);$", ") {"));
            T.holds("the class has, in the document's order: " + line, at > last);
            last = at;
        }
    }

    private static void sections() throws IOException {
        T.begin(ALL, "Ahead of the calls `node`, `edge`, `say`, `wipe`, `fault`, `net`, `jobs`, `told`, `carry` the"
                + " interface says: ---- 1 nodes, edges. Ahead of the calls `run`, `reset` the interface says: ---- 2"
                + " rounds. Ahead of the calls `uneven`, `share`, `potential`, `ideal`, `until`, `ring` the interface"
                + " says: ---- 3 how uneven, how long. Ahead of the calls `image`, `restore`, `count` the interface"
                + " says: ---- 4 images.");
        String source = Files.readString(SOURCE);
        String[] says = {"// ---- 1 nodes, edges", "// ---- 2 rounds", "// ---- 3 how uneven, how long",
            "// ---- 4 images"};
        int[] upTo = {9, 11, 17, 20};
        int which = 0;
        for (int i = 0; i < says.length; i++) {
            int from = source.indexOf(says[i] + "\n");
            int to = i + 1 < says.length ? source.indexOf(says[i + 1] + "\n") : source.length();
            T.holds("the class has the line " + says[i], from >= 0);
            for (; which < upTo[i]; which++) {
                int at = source.indexOf(" " + Calls.NAMES[which] + "(", source.indexOf("public JobSpread()"));
                T.holds(Calls.NAMES[which] + " stands behind " + says[i], at > from && at < to);
            }
        }
    }

    private static boolean isOpen(Member member) {
        return !Modifier.isPrivate(member.getModifiers()) && !member.isSynthetic();
    }

    private static String text(Method method) {
        StringBuilder text = new StringBuilder();
        text.append(method.getReturnType()).append(' ').append(method.getName()).append('(');
        for (int i = 0; i < method.getParameterCount(); i++) {
            text.append(i == 0 ? "" : ",").append(method.getParameterTypes()[i]);
        }
        return text.append(')').toString();
    }
}
