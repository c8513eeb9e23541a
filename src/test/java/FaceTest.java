import java.lang.reflect.Constructor;
import java.lang.reflect.Field;
import java.lang.reflect.Method;
import java.lang.reflect.Modifier;
import java.util.Arrays;
import java.util.Set;
import java.util.TreeSet;

/** The class has the document's face and nothing else that can be seen (LANGUAGE.md, rules 1, 2, 5). */
public final class FaceTest {
    private static final String[] FACE = {
        "boolean begin(int)", "int add(int,int,int,int)", "boolean change(int,int,int,int,int)",
        "int clear()", "int claim(int,int,int)", "int explore()", "int fails(int)", "int stuck(boolean)",
        "int avoids(int,int)", "int way(int,int)", "int state(int,int)", "boolean walk(int)",
        "boolean go(int)", "int now(int)", "int count(int)",
    };

    public static void main(String[] args) throws Exception {
        Due due = new Due();
        due.yes("public and final", Modifier.isPublic(ClaimDesk.class.getModifiers())
                && Modifier.isFinal(ClaimDesk.class.getModifiers()));
        constants(due);
        constructors(due);
        methods(due);
        classesInside(due);
        due.end();
    }

    private static void constants(Due due) throws Exception {
        due.is("REFUSED", ClaimDesk.class.getField("REFUSED").getInt(null), -1);
        due.is("NONE", ClaimDesk.class.getField("NONE").getInt(null), -2);
        due.is("FULL", ClaimDesk.class.getField("FULL").getInt(null), -3);
        due.is("LARGE", ClaimDesk.class.getField("LARGE").getInt(null), -4);
        due.is("public fields", ClaimDesk.class.getFields().length, 4);
        for (Field field : ClaimDesk.class.getDeclaredFields()) {
            int modifiers = field.getModifiers();
            due.yes(field + " is public or private", Modifier.isPublic(modifiers) || Modifier.isPrivate(modifiers));
            due.yes(field + " is no changing static", !Modifier.isStatic(modifiers) || Modifier.isFinal(modifiers));
        }
    }

    private static void constructors(Due due) {
        Constructor<?>[] all = ClaimDesk.class.getDeclaredConstructors();
        due.is("constructors", all.length, 1);
        due.yes("it is public", Modifier.isPublic(all[0].getModifiers()));
        due.is("its parameters", all[0].getParameterCount(), 0);
    }

    private static void methods(Due due) {
        Set<String> seen = new TreeSet<>();
        Set<String> publicNames = new TreeSet<>();
        Set<String> privateNames = new TreeSet<>();
        for (Method method : ClaimDesk.class.getDeclaredMethods()) {
            if (Modifier.isPublic(method.getModifiers())) {
                due.no(method + " is static", Modifier.isStatic(method.getModifiers()));
                seen.add(told(method));
                publicNames.add(method.getName());
            } else {
                due.yes(method + " is private", Modifier.isPrivate(method.getModifiers()));
                privateNames.add(method.getName());
            }
        }
        due.yes("the face is " + seen, seen.equals(new TreeSet<>(Arrays.asList(FACE))));
        privateNames.retainAll(publicNames);
        due.yes("private names that are public ones too: " + privateNames, privateNames.isEmpty());
    }

    private static String told(Method method) {
        StringBuilder text = new StringBuilder(method.getReturnType() + " " + method.getName() + "(");
        for (Class<?> type : method.getParameterTypes()) {
            text.append(text.charAt(text.length() - 1) == '(' ? "" : ",").append(type);
        }
        return text.append(")").toString();
    }

    private static void classesInside(Due due) {
        Class<?>[] inside = ClaimDesk.class.getDeclaredClasses();
        due.yes("at most twelve classes", inside.length < 12);
        for (Class<?> one : inside) {
            int modifiers = one.getModifiers();
            due.yes(one + " is static", Modifier.isStatic(modifiers));
            due.no(one + " is seen", Modifier.isPublic(modifiers) || Modifier.isProtected(modifiers));
            for (Field field : one.getDeclaredFields()) {
                due.yes(field + " is no changing static",
                        !Modifier.isStatic(field.getModifiers()) || Modifier.isFinal(field.getModifiers()));
            }
        }
    }
}
