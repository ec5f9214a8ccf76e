import java.lang.reflect.Constructor;
import java.lang.reflect.Field;
import java.lang.reflect.Method;
import java.lang.reflect.Modifier;
import java.util.Set;
import java.util.TreeSet;

/** The public face is the document's, and nothing else can be seen from outside (LANGUAGE.md, rule 1). */
public final class FaceTest {
    private static final String[] FACE = {
        "boolean move(int,int,int)", "boolean speed(int,int,int)", "boolean row(long,int,int)", "int run()",
        "int act(int)", "boolean greatest()", "boolean truth(int,int)", "int fit(int)", "long sum(int)",
        "int leftOut(int)", "long hours(int)", "int haul(int,int)", "int differs(int,int)",
        "boolean page(long,long,int)", "boolean unsure(int)", "boolean margin(int)", "long map(int,int)",
        "boolean cell(int,int,int,long)", "int gear(int)", "boolean ship(int)", "long total()",
        "boolean tied(int)", "int night(int)",
    };

    public static void main(String[] args) {
        Check check = new Check("FaceTest");
        Set<String> due = new TreeSet<>(Set.of(FACE));
        Set<String> dueNames = new TreeSet<>();
        for (String method : FACE) {
            dueNames.add(method.substring(method.indexOf(' ') + 1, method.indexOf('(')));
        }
        Set<String> seen = new TreeSet<>();
        for (Method method : ActChains.class.getDeclaredMethods()) {
            if (Modifier.isPrivate(method.getModifiers())) {
                check.no("a private method named " + method.getName(), dueNames.contains(method.getName()));
            } else {
                seen.add(described(method));
            }
        }
        check.yes("the methods are " + seen, seen.equals(due));
        checkFields(check);
        checkConstructors(check);
        check.yes("the class is public and final", ActChains.class.getModifiers() == (Modifier.PUBLIC | Modifier.FINAL));
        check.end();
    }

    private static String described(Method method) {
        StringBuilder types = new StringBuilder();
        for (Class<?> type : method.getParameterTypes()) {
            types.append(types.length() == 0 ? "" : ",").append(type.getName());
        }
        check(method);
        return method.getReturnType().getName() + " " + method.getName() + "(" + types + ")";
    }

    private static void check(Method method) {
        if (method.getModifiers() != Modifier.PUBLIC) {
            throw new IllegalStateException(method + " is not plainly public");
        }
    }

    private static void checkFields(Check check) {
        for (Field field : ActChains.class.getDeclaredFields()) {
            boolean isNone = field.getName().equals("NONE");
            check.yes("field " + field.getName() + " is private, or NONE",
                isNone || Modifier.isPrivate(field.getModifiers()));
            check.yes("static field " + field.getName() + " is final",
                !Modifier.isStatic(field.getModifiers()) || Modifier.isFinal(field.getModifiers()));
        }
        check.due("NONE", ActChains.NONE, -1);
    }

    private static void checkConstructors(Check check) {
        Constructor<?>[] all = ActChains.class.getDeclaredConstructors();
        check.due("constructors", all.length, 1);
        check.yes("the constructor is public and takes an int", Modifier.isPublic(all[0].getModifiers())
            && all[0].getParameterCount() == 1 && all[0].getParameterTypes()[0] == int.class);
    }
}
