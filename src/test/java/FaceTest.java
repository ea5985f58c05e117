import java.lang.reflect.Constructor;
import java.lang.reflect.Field;
import java.lang.reflect.Method;
import java.lang.reflect.Modifier;
import java.util.Arrays;
import java.util.HashSet;
import java.util.Set;
import java.util.TreeSet;

/** The public face is the document's, and nothing else of the class can be reached (rules 1 and 5). */
public final class FaceTest {
    private static final String[] FACE = {
        "public boolean PartitionDesk.action(int,int,int)",
        "public boolean PartitionDesk.code(int,int,int,int,int)",
        "public boolean PartitionDesk.region(int,int,int)",
        "public boolean PartitionDesk.window(int,int)",
        "public int PartitionDesk.about(int,int)",
        "public int PartitionDesk.clock(int)",
        "public int PartitionDesk.input(int,int)",
        "public int PartitionDesk.output(int,int)",
        "public int PartitionDesk.port(int,int,int)",
        "public int PartitionDesk.run(int)",
        "public int PartitionDesk.start()",
        "public int PartitionDesk.waiting(int)",
        "public int PartitionDesk.word(int)",
    };
    private static final Due due = new Due();

    public static void main(String[] args) {
        theClass();
        theMethods();
        theFields();
        theClassesInside();
        due.end();
    }

    private static void theClass() {
        due.is("modifiers", PartitionDesk.class.getModifiers(), Modifier.PUBLIC | Modifier.FINAL);
        due.same("package", PartitionDesk.class.getPackageName(), "");
        due.yes("no class above it", PartitionDesk.class.getSuperclass() == Object.class);
        due.is("interfaces", PartitionDesk.class.getInterfaces().length, 0);
        Constructor<?>[] constructors = PartitionDesk.class.getDeclaredConstructors();
        due.is("constructors", constructors.length, 1);
        due.same("constructor", constructors[0].toGenericString(), "public PartitionDesk()");
    }

    private static void theMethods() {
        Set<String> open = new TreeSet<>();
        Set<String> openNames = new HashSet<>();
        Set<String> privateNames = new HashSet<>();
        for (Method method : PartitionDesk.class.getDeclaredMethods()) {
            if (Modifier.isPrivate(method.getModifiers())) {
                privateNames.add(method.getName());
            } else {
                open.add(method.toGenericString());
                openNames.add(method.getName());
            }
        }
        due.same("methods", String.join("\n", open), String.join("\n", new TreeSet<>(Arrays.asList(FACE))));
        privateNames.retainAll(openNames);
        due.same("private methods with a public one's name", privateNames.toString(), "[]");
    }

    private static void theFields() {
        for (Field field : PartitionDesk.class.getDeclaredFields()) {
            int modifiers = field.getModifiers();
            due.yes("private: " + field, Modifier.isPrivate(modifiers));
            due.yes("no static state: " + field, !Modifier.isStatic(modifiers) || Modifier.isFinal(modifiers));
        }
    }

    private static void theClassesInside() {
        for (Class<?> inside : PartitionDesk.class.getDeclaredClasses()) {
            int modifiers = inside.getModifiers();
            due.yes("static: " + inside, Modifier.isStatic(modifiers));
            due.no("public: " + inside, Modifier.isPublic(modifiers));
            due.no("protected: " + inside, Modifier.isProtected(modifiers));
            for (Field field : inside.getDeclaredFields()) {
                due.no("static state: " + field, Modifier.isStatic(field.getModifiers()));
            }
        }
    }
}
