import java.lang.reflect.Constructor;
import java.lang.reflect.Field;
import java.lang.reflect.Method;
import java.lang.reflect.Modifier;
import java.util.Set;
import java.util.TreeSet;

/** The public face and rule 1 of LANGUAGE.md: just the constructor, methods and constants of the document. */
public final class FaceTest {
    private static final String[] METHODS = {
        "int addClient(int,int,int,int,int)", "int setTopics(int,int)", "int setUp(int,boolean)", "int setUse(int)",
        "int pay(int,int)", "int readStory()", "int release(int)", "int hold(int)", "int setEmbargo(int,int)",
        "int correct(int)", "int kill(int)", "int pass(int)", "int type(char)", "int clearText()", "int undo()",
        "int keep()", "int restore()", "int story(int,int)", "int byline(int,int)", "int slugChar(int,int)",
        "int correction(int,int)", "int client(int,int)", "int person(int,int)", "int copy(int,int,int)",
        "int copyAt(int)", "int carriedIn(int,int)", "int wouldCome(int,int)", "int event(int,int)", "int count(int)"};
    private static final String[] CONSTANTS = {"UNKNOWN", "BAD_VALUE", "FULL", "NOT_POSSIBLE", "NONE"};

    private static final Check CHECK = new Check("FaceTest");

    public static void main(String[] args) throws IllegalAccessException {
        CHECK.holds("the class is public and final",
            Modifier.isPublic(EmbargoDesk.class.getModifiers()) && Modifier.isFinal(EmbargoDesk.class.getModifiers()));
        methods();
        constants();
        Constructor<?>[] constructors = EmbargoDesk.class.getDeclaredConstructors();
        CHECK.due("constructors", constructors.length, 1);
        CHECK.due("their parameters", constructors[0].getParameterCount(), 0);
        CHECK.holds("public constructor", Modifier.isPublic(constructors[0].getModifiers()));
        CHECK.holds("some twelve classes", EmbargoDesk.class.getDeclaredClasses().length + 1 <= 12);
        for (Class<?> inside : EmbargoDesk.class.getDeclaredClasses()) {
            int modifiers = inside.getModifiers();
            CHECK.holds(inside + " is static and not public",
                Modifier.isStatic(modifiers) && !Modifier.isPublic(modifiers) && !Modifier.isProtected(modifiers));
            CHECK.holds(inside + " has some twenty fields", inside.getDeclaredFields().length <= 20);
        }
        CHECK.end();
    }

    private static void methods() {
        Set<String> due = new TreeSet<>(Set.of(METHODS));
        Set<String> names = new TreeSet<>();
        for (String method : METHODS) {
            names.add(method.substring(4, method.indexOf('(')));
        }
        for (Method method : EmbargoDesk.class.getDeclaredMethods()) {
            if (Modifier.isPrivate(method.getModifiers())) {
                CHECK.holds("private " + method.getName() + " has a name of its own", !names.contains(method.getName()));
                continue;
            }
            StringBuilder face = new StringBuilder("int ".equals(method.getReturnType() + " ") ? "int " : "? ");
            face.append(method.getName()).append('(');
            for (Class<?> parameter : method.getParameterTypes()) {
                face.append(face.charAt(face.length() - 1) == '(' ? "" : ",").append(parameter.getName());
            }
            face.append(')');
            CHECK.holds(face + " is in the document", due.remove(face.toString()));
            CHECK.due(face + " is public and nothing else", method.getModifiers(), Modifier.PUBLIC);
        }
        CHECK.holds("all are there but " + due, due.isEmpty());
    }

    private static void constants() throws IllegalAccessException {
        Set<String> due = new TreeSet<>(Set.of(CONSTANTS));
        for (Field field : EmbargoDesk.class.getDeclaredFields()) {
            if (Modifier.isPrivate(field.getModifiers())) {
                continue;
            }
            CHECK.holds(field.getName() + " is in the document", due.remove(field.getName()));
            CHECK.due(field.getName() + " is a constant", field.getModifiers(),
                Modifier.PUBLIC | Modifier.STATIC | Modifier.FINAL);
        }
        CHECK.holds("all are there but " + due, due.isEmpty());
        for (int i = 0; i < CONSTANTS.length; i++) {
            int value = -1 - i;
            try {
                CHECK.due(CONSTANTS[i], EmbargoDesk.class.getField(CONSTANTS[i]).getInt(null), value);
            } catch (NoSuchFieldException missing) {
                CHECK.holds(CONSTANTS[i], false);
            }
        }
    }
}
