import java.lang.reflect.Constructor;
import java.lang.reflect.Field;
import java.lang.reflect.Method;
import java.lang.reflect.Modifier;
import java.util.ArrayList;
import java.util.HashSet;
import java.util.List;
import java.util.Set;
import java.util.TreeSet;

/** The class has the document's face and nothing beside it (LANGUAGE.md, rules 1, 5 and 11). */
public final class FaceTest {
    private static final String[] FACE = {
        "int status()", "int node(int,int)", "boolean waits(int,int,int)",
        "int line(int,int,int,int,int,int,int)", "boolean strike(int)", "boolean delay(int,int,int)",
        "boolean close(int,int,int)", "int changes()", "boolean undo()", "int told(int,int)",
        "int run(int,int,int,int)", "int first(int,int,int,int)", "int last(int,int,int,int)",
        "int quickest(int,int,int,int,int)", "int fewest(int,int,int,int,int)", "int way(int,int,int,int)",
        "int out(int)", "int pairs(int,int,int)", "int pair(int,int,int,int,boolean)",
        "int reached(int,int,int,int)", "int isReached(int,int,int,int,int)", "int without(int,int,int,int)",
        "int weakest(int,int,int)", "int stand(int)"
    };

    private static final List<String> FAULTS = new ArrayList<>();

    private static void want(boolean holds, String fault) {
        if (!holds) {
            FAULTS.add(fault);
        }
    }

    public static void main(String[] args) throws Exception {
        Class<?> type = TimedNet.class;
        want(Modifier.isPublic(type.getModifiers()) && Modifier.isFinal(type.getModifiers()), "public and final");
        checkMethods(type);
        checkFields(type);
        Constructor<?>[] makers = type.getDeclaredConstructors();
        want(makers.length == 1 && makers[0].getParameterCount() == 0
                && Modifier.isPublic(makers[0].getModifiers()), "one public constructor");
        for (Class<?> inner : type.getDeclaredClasses()) {
            checkInner(inner);
        }
        want(type.getDeclaredClasses().length <= 12, "at most twelve classes");
        for (String fault : FAULTS) {
            System.out.println("face: " + fault);
        }
        System.out.println(FAULTS.isEmpty() ? "the face is as due" : FAULTS.size() + " faults");
        if (!FAULTS.isEmpty()) {
            System.exit(1);
        }
    }

    private static void checkMethods(Class<?> type) {
        Set<String> open = new TreeSet<>();
        for (Method method : type.getDeclaredMethods()) {
            if (!Modifier.isPrivate(method.getModifiers())) {
                open.add(describe(method));
                want(Modifier.isPublic(method.getModifiers()), "not public: " + method);
                want(!Modifier.isStatic(method.getModifiers()), "static: " + method);
            }
        }
        want(open.equals(new TreeSet<>(List.of(FACE))), "the methods are " + open);
        checkPrivateNames(type);
    }

    private static String describe(Method method) {
        StringBuilder text = new StringBuilder();
        text.append(method.getReturnType().getName()).append(' ').append(method.getName()).append('(');
        for (int i = 0; i < method.getParameterCount(); i++) {
            text.append(i == 0 ? "" : ",").append(method.getParameterTypes()[i].getName());
        }
        return text.append(')').toString();
    }

    private static void checkPrivateNames(Class<?> type) {
        Set<String> names = new HashSet<>();
        for (String method : FACE) {
            names.add(method.substring(method.indexOf(' ') + 1, method.indexOf('(')));
        }
        for (Method method : type.getDeclaredMethods()) {
            want(!Modifier.isPrivate(method.getModifiers()) || !names.contains(method.getName()),
                    "a private method bears the name of a public one: " + method);
            want(method.getParameterCount() <= 7, "more than seven parameters: " + method);
        }
    }

    private static void checkFields(Class<?> type) throws Exception {
        for (Field field : type.getDeclaredFields()) {
            boolean isNone = field.getName().equals("NONE");
            want(isNone == !Modifier.isPrivate(field.getModifiers()), "open or hidden wrongly: " + field);
            want(!Modifier.isStatic(field.getModifiers()) || Modifier.isFinal(field.getModifiers()),
                    "static and not final: " + field);
        }
        Field none = type.getDeclaredField("NONE");
        want(none.getType() == int.class && none.getInt(null) == -1
                && Modifier.isPublic(none.getModifiers()) && Modifier.isStatic(none.getModifiers()), "NONE");
    }

    private static void checkInner(Class<?> inner) {
        want(Modifier.isStatic(inner.getModifiers()), "not static: " + inner);
        want(!Modifier.isPublic(inner.getModifiers()) && !Modifier.isProtected(inner.getModifiers()),
                "seen from outside: " + inner);
        want(inner.getDeclaredFields().length <= 20, "more than twenty fields: " + inner);
        checkPrivateNames(inner);
    }
}
