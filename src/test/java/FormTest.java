import java.lang.reflect.Constructor;
import java.lang.reflect.Field;
import java.lang.reflect.Method;
import java.lang.reflect.Modifier;
import java.util.Arrays;
import java.util.Set;
import java.util.TreeSet;
import java.util.stream.Collectors;

/** The public face of the document, and the rules 1, 5 and 11 of LANGUAGE.md as far as the compiled class tells. */
public final class FormTest extends Checks {
    private static final String INDEX_NAME = " throws IndexOutOfBoundsException";
    private static final String ARGUMENT_NAME = "IllegalArgumentException";
    private static final String STATE_NAME = "IllegalStateException";
    private static final String[] FACE = {
        "int append(int,int,int,int,int) throws " + STATE_NAME,
        "int load(int) throws " + ARGUMENT_NAME,
        "int errorPosition()",
        "int count(int) throws " + ARGUMENT_NAME,
        "int user(int,int)" + INDEX_NAME + "," + ARGUMENT_NAME,
        "int addUser(int,int)" + INDEX_NAME + "," + ARGUMENT_NAME + "," + STATE_NAME,
        "int setShares(int,int)" + INDEX_NAME + "," + ARGUMENT_NAME,
        "int lend(int,int,int,int)" + INDEX_NAME + "," + ARGUMENT_NAME + "," + STATE_NAME,
        "int loan(int,int)" + INDEX_NAME + "," + ARGUMENT_NAME,
        "int balance(int)" + INDEX_NAME,
        "int ranked(int)" + INDEX_NAME,
        "long worth(int,int)" + INDEX_NAME + "," + ARGUMENT_NAME + "," + STATE_NAME,
        "int machine(int,int)" + INDEX_NAME + "," + ARGUMENT_NAME,
        "int job(int,int)" + INDEX_NAME + "," + ARGUMENT_NAME,
        "int first() throws NoSuchElementException",
        "int submit(int,int)" + INDEX_NAME + "," + ARGUMENT_NAME + "," + STATE_NAME,
        "int cancel(int)" + INDEX_NAME + "," + STATE_NAME,
        "int setUp(int,boolean)" + INDEX_NAME,
        "int set(int,int) throws " + ARGUMENT_NAME,
        "int tick(int) throws " + ARGUMENT_NAME + "," + STATE_NAME,
        "int finishedIn(int)" + INDEX_NAME + "," + STATE_NAME,
        "int ahead(int,int) throws " + ARGUMENT_NAME,
        "int drift()",
        "float part(int)" + INDEX_NAME + ",NoSuchElementException",
        "int neediest()",
        "int writeMachines()",
        "int writtenByte(int)" + INDEX_NAME,
        "int undo() throws " + STATE_NAME,
    };

    private static String names(Class<?>[] types) {
        return Arrays.stream(types).map(Class::getSimpleName).collect(Collectors.joining(","));
    }

    private static String signature(Method method) {
        String thrown = names(method.getExceptionTypes());
        return method.getReturnType().getSimpleName() + " " + method.getName() + "(" + names(method.getParameterTypes()) + ")"
            + (thrown.isEmpty() ? "" : " throws " + thrown);
    }

    private static void theFace() throws IllegalAccessException {
        about("The public face; LANGUAGE.md, rule 1");
        Class<?> type = ShareTickets.class;
        Set<String> found = new TreeSet<>();
        Set<String> faceNames = new TreeSet<>();
        for (Method method : type.getDeclaredMethods()) {
            if (Modifier.isPublic(method.getModifiers())) {
                is(Modifier.PUBLIC, method.getModifiers(), "modifiers of " + method.getName());
                found.add(signature(method));
                faceNames.add(method.getName());
            }
        }
        same(new TreeSet<>(Arrays.asList(FACE)).toString(), found.toString(), "the methods");
        for (Method method : type.getDeclaredMethods()) {
            int modifiers = method.getModifiers();
            is(1, Modifier.isPublic(modifiers) || Modifier.isPrivate(modifiers) ? 1 : 0, "no other method but private: " + method);
            is(0, Modifier.isPrivate(modifiers) && faceNames.contains(method.getName()) ? 1 : 0, "a private one's name: " + method);
        }
        Set<String> constants = new TreeSet<>();
        for (Field field : type.getDeclaredFields()) {
            int modifiers = field.getModifiers();
            if (Modifier.isPublic(modifiers)) {
                is(Modifier.PUBLIC | Modifier.STATIC | Modifier.FINAL, modifiers, "modifiers of " + field.getName());
                constants.add(field.getType() + " " + field.getName() + "=" + field.get(null));
            } else {
                is(1, Modifier.isPrivate(modifiers) ? 1 : 0, "no other field but private: " + field);
            }
        }
        same("[int NONE=-1, int SYNTAX_ERROR=-2, int TOO_MANY=-4, int VALUE_ERROR=-3]", constants.toString(), "the constants");
        Constructor<?>[] constructors = type.getDeclaredConstructors();
        is(1, constructors.length, "constructors");
        is(Modifier.PUBLIC, constructors[0].getModifiers(), "modifiers of the constructor");
        is(0, constructors[0].getParameterCount() + constructors[0].getExceptionTypes().length, "what it takes and throws");
        is(Modifier.PUBLIC | Modifier.FINAL, type.getModifiers(), "modifiers of the class");
        same("[]", Arrays.toString(type.getInterfaces()), "interfaces");
    }

    private static void theClassesInside() {
        about("LANGUAGE.md, rules 1, 5 and 11");
        Class<?>[] inside = ShareTickets.class.getDeclaredClasses();
        is(1, inside.length < 12 ? 1 : 0, "not more than twelve classes: " + inside.length);
        for (Class<?> type : inside) {
            is(1, Modifier.isStatic(type.getModifiers()) ? 1 : 0, "static: " + type);
            is(0, Modifier.isPublic(type.getModifiers()) || Modifier.isProtected(type.getModifiers()) ? 1 : 0, "not public: " + type);
            checkMembers(type);
        }
        checkMembers(ShareTickets.class);
    }

    private static void checkMembers(Class<?> type) {
        int fields = 0;
        for (Field field : type.getDeclaredFields()) {
            if (Modifier.isStatic(field.getModifiers())) {
                is(1, Modifier.isFinal(field.getModifiers()) ? 1 : 0, "a static field is final: " + field);
            } else {
                fields++;
            }
        }
        is(1, fields <= 20 ? 1 : 0, "not more than twenty fields: " + type);
        for (Method method : type.getDeclaredMethods()) {
            is(1, method.getParameterCount() <= 7 ? 1 : 0, "not more than seven parameters: " + method);
            is(0, method.isSynthetic() ? 1 : 0, "no lambda: " + method);
        }
    }

    public static void main(String[] args) throws IllegalAccessException {
        theFace();
        theClassesInside();
        end("the class has the document's face");
    }
}
