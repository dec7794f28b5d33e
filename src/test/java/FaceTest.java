import java.lang.reflect.Constructor;
import java.lang.reflect.Field;
import java.lang.reflect.Method;
import java.lang.reflect.Modifier;
import java.util.Arrays;
import java.util.Set;
import java.util.TreeSet;

/** The class has the public face of the document and no other member that is not private. */
public final class FaceTest {
    private static final String[] METHODS = {
        "int append(int,int,int,int,int)", "int load(int)", "int errorOffset()", "int count(int)", "int column(int,int)",
        "int value(int,int)", "int named(int)", "int hole(int,int)", "int statement(int,int)", "int learned(int,int)",
        "int kept(int)", "int genericCost(int,int)", "int special(int,int,int,int,int)",
        "int specialCost(int,int,int,int,int,int)", "int wouldUse(int,int,int,int,int)", "long rows(int,int,int,int,int)",
        "int run(int,int,int,int,int)", "int insert(int,int,int,int,int)", "int delete(int)", "boolean setIndex(int,boolean)",
        "int analyze()", "int undo()", "long checksum()"};
    private static final String[] CONSTANTS = {
        "SYNTAX_ERROR", "OUT_OF_RANGE", "UNKNOWN", "DUPLICATE", "MISMATCH", "TOO_MANY", "TOO_DEEP"};

    public static void main(String[] args) {
        Class<?> face = PreparedPlans.class;
        is("the class is public and final", face.getModifiers() == (Modifier.PUBLIC | Modifier.FINAL));
        Set<String> publicNames = checkMethods(face);
        checkFields(face, new TreeSet<>(Arrays.asList(CONSTANTS)));
        Constructor<?>[] constructors = face.getDeclaredConstructors();
        is("one public constructor without parameters", constructors.length == 1
                && Modifier.isPublic(constructors[0].getModifiers()) && constructors[0].getParameterCount() == 0);
        Class<?>[] inside = face.getDeclaredClasses();
        is("at most twelve classes", inside.length < 12);
        for (Class<?> nested : inside) {
            is(nested + " is private and static",
                    Modifier.isPrivate(nested.getModifiers()) && Modifier.isStatic(nested.getModifiers()));
            for (Method method : nested.getDeclaredMethods()) {
                is(method + " has a name of its own", !publicNames.contains(method.getName()));
                is(method + " has at most seven parameters", method.getParameterCount() <= 7);
            }
            checkFields(nested, new TreeSet<>());
        }
        Checks.end("FaceTest");
    }

    private static void is(String what, boolean isRight) {
        Checks.same(what, isRight ? 1 : 0, 1);
    }

    private static Set<String> checkMethods(Class<?> face) {
        Set<String> due = new TreeSet<>(Arrays.asList(METHODS));
        Set<String> publicNames = new TreeSet<>();
        for (Method method : face.getDeclaredMethods()) {
            if (Modifier.isPublic(method.getModifiers())) {
                is(method + " is in the document", due.remove(signature(method)));
                is(method + " is not static", !Modifier.isStatic(method.getModifiers()));
                publicNames.add(method.getName());
            }
        }
        is("all methods are there, but not " + due, due.isEmpty());
        for (Method method : face.getDeclaredMethods()) {
            if (!Modifier.isPublic(method.getModifiers())) {
                is(method + " is private", Modifier.isPrivate(method.getModifiers()));
                is(method + " has a name of its own", !publicNames.contains(method.getName()));
            }
            is(method + " has at most seven parameters", method.getParameterCount() <= 7);
        }
        return publicNames;
    }

    private static String signature(Method method) {
        StringBuilder text = new StringBuilder(method.getReturnType() + " " + method.getName() + "(");
        for (Class<?> type : method.getParameterTypes()) {
            text.append(text.charAt(text.length() - 1) == '(' ? "" : ",").append(type);
        }
        return text.append(')').toString();
    }

    private static void checkFields(Class<?> owner, Set<String> constants) {
        int ofObjects = 0;
        for (Field field : owner.getDeclaredFields()) {
            int modifiers = field.getModifiers();
            is(field + " is a constant of the document or private",
                    constants.remove(field.getName()) ? Modifier.isPublic(modifiers) : Modifier.isPrivate(modifiers));
            is(field + " is final if it is static", !Modifier.isStatic(modifiers) || Modifier.isFinal(modifiers));
            ofObjects += Modifier.isStatic(modifiers) ? 0 : 1;
        }
        is("all constants are there, but not " + constants, constants.isEmpty());
        is(owner + " has some twenty fields", ofObjects <= 20);
    }
}
