import java.lang.reflect.Constructor;
import java.lang.reflect.Field;
import java.lang.reflect.Method;
import java.lang.reflect.Modifier;
import java.util.TreeSet;

/** The public face of the document: all of it, and nothing that can be seen besides. */
public final class FaceTest {
    private static final String[] METHODS = {
        "int kind(int)", "int scene()", "int close(int)", "int listen(int,int,int,int)",
        "int filter(int,long,long)", "int once(int,boolean)", "int step(int,int,int)", "int leave(int)",
        "int tray(int,int,int)", "int lay(int,int,long)", "long cell(int,int)", "int cells(int)",
        "int send(int,long)", "int told(int)", "long value()", "long logged(int)", "int failure(int,int)",
        "long meter(int)", "int back(int)", "int listener(int,int)", "int turn(int,int,int)",
        "int under(int,int)", "int count(int)"
    };

    public static void main(String[] args) {
        Check check = new Check("FaceTest");
        check.due("public and final", ShowDesk.class.getModifiers(), Modifier.PUBLIC | Modifier.FINAL);
        checkMethods(check);
        checkFields(check);
        for (Constructor<?> maker : ShowDesk.class.getDeclaredConstructors()) {
            check.due("constructor public", maker.getModifiers(), Modifier.PUBLIC);
            check.due("constructor's parameters", maker.getParameterCount(), 0);
        }
        for (Class<?> inner : ShowDesk.class.getDeclaredClasses()) {
            check.due(inner + " static", Modifier.isStatic(inner.getModifiers()) ? 1 : 0, 1);
            check.due(inner + " public", Modifier.isPublic(inner.getModifiers()) ? 1 : 0, 0);
        }
        check.due("BAD", ShowDesk.BAD, -1);
        check.due("STATE", ShowDesk.STATE, -2);
        check.due("FULL", ShowDesk.FULL, -3);
        check.due("NONE", ShowDesk.NONE, -4);
        check.end();
    }

    private static void checkMethods(Check check) {
        TreeSet<String> due = new TreeSet<>();
        TreeSet<String> names = new TreeSet<>();
        for (String method : METHODS) {
            due.add(method);
            names.add(method.substring(method.indexOf(' ') + 1, method.indexOf('(')));
        }
        for (Method method : ShowDesk.class.getDeclaredMethods()) {
            if (Modifier.isPrivate(method.getModifiers())) {
                check.due("private " + method.getName() + " bears a public name", names.contains(method.getName()) ? 1 : 0, 0);
                continue;
            }
            check.due(method + " public and not static", method.getModifiers(), Modifier.PUBLIC);
            check.due(method + " is of the face", due.remove(describe(method)) ? 1 : 0, 1);
        }
        check.due("missing " + due, due.size(), 0);
    }

    private static void checkFields(Check check) {
        int seen = 0;
        for (Field field : ShowDesk.class.getDeclaredFields()) {
            if (Modifier.isPrivate(field.getModifiers())) continue;
            seen++;
            check.due(field + " constant", field.getModifiers(), Modifier.PUBLIC | Modifier.STATIC | Modifier.FINAL);
        }
        check.due("constants that can be seen", seen, 4);
    }

    private static String describe(Method method) {
        StringBuilder text = new StringBuilder(method.getReturnType().getName());
        text.append(' ').append(method.getName()).append('(');
        String comma = "";
        for (Class<?> type : method.getParameterTypes()) {
            text.append(comma).append(type.getName());
            comma = ",";
        }
        return text.append(')').toString();
    }
}
