import java.lang.reflect.Constructor;
import java.lang.reflect.Field;
import java.lang.reflect.Method;
import java.lang.reflect.Modifier;
import java.util.Set;
import java.util.TreeSet;

/** The public face, and rule 1 of LANGUAGE.md: nothing else can be seen from outside. */
public final class FaceTest {
    private static final String[] METHODS = {
        "int node(int,int,int,int)", "int define(int,int)", "int undefine(int)", "int step(int,int,int)",
        "int clear(int)", "int input(int,int,int)", "int activate(int,boolean)", "long value(int,int)",
        "int pay()", "int back(int)", "int again(int)", "long slip(int,int,int)", "int held(int,int)",
        "long account(int)", "long paid(int,int)", "int count(int)"
    };

    public static void main(String[] args) {
        Check check = new Check();
        check.due("REFUSED", -1, RulePayroll.REFUSED);
        check.due("FULL", -2, RulePayroll.FULL);
        check.due("NONE", 1000000000000L, RulePayroll.NONE);
        check.due("EMPTY", 1000000000001L, RulePayroll.EMPTY);
        check.due("FAULT", 1000000000100L, RulePayroll.FAULT);

        Class<?> face = RulePayroll.class;
        check.due("public", 1, Modifier.isPublic(face.getModifiers()) ? 1 : 0);
        check.due("final", 1, Modifier.isFinal(face.getModifiers()) ? 1 : 0);
        same(check, "methods", new TreeSet<>(Set.of(METHODS)), visibleMethods(face));
        same(check, "fields", new TreeSet<>(Set.of("REFUSED", "FULL", "NONE", "EMPTY", "FAULT")), visibleFields(face));
        same(check, "names borne twice", new TreeSet<>(), privateNamesOfPublicMethods(face));
        check.due("constructors", 1, face.getDeclaredConstructors().length);
        for (Constructor<?> made : face.getDeclaredConstructors()) {
            check.due("public constructor", 1, Modifier.isPublic(made.getModifiers()) ? 1 : 0);
            check.due("its parameters", 0, made.getParameterCount());
        }
        check.end();
    }

    private static void same(Check check, String what, Set<String> want, Set<String> got) {
        if (!want.equals(got)) {
            System.out.println(what + " are " + got + ", due are " + want);
        }
        check.due(what, 1, want.equals(got) ? 1 : 0);
    }

    private static Set<String> visibleMethods(Class<?> face) {
        Set<String> found = new TreeSet<>();
        for (Method method : face.getDeclaredMethods()) {
            if (!Modifier.isPrivate(method.getModifiers())) {
                found.add(signature(method));
            }
        }
        return found;
    }

    private static String signature(Method method) {
        StringBuilder text = new StringBuilder();
        text.append(method.getReturnType().getName()).append(' ').append(method.getName()).append('(');
        for (Class<?> type : method.getParameterTypes()) {
            if (text.charAt(text.length() - 1) != '(') {
                text.append(',');
            }
            text.append(type.getName());
        }
        return text.append(')').toString();
    }

    private static Set<String> visibleFields(Class<?> face) {
        Set<String> found = new TreeSet<>();
        for (Field field : face.getDeclaredFields()) {
            if (!Modifier.isPrivate(field.getModifiers())) {
                found.add(field.getName());
            }
        }
        return found;
    }

    private static Set<String> privateNamesOfPublicMethods(Class<?> face) {
        Set<String> found = new TreeSet<>();
        for (Method method : face.getDeclaredMethods()) {
            for (String due : METHODS) {
                if (Modifier.isPrivate(method.getModifiers()) && due.contains(" " + method.getName() + "(")) {
                    found.add(method.getName());
                }
            }
        }
        return found;
    }
}
