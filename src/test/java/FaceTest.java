import java.lang.reflect.Constructor;
import java.lang.reflect.Field;
import java.lang.reflect.Method;
import java.lang.reflect.Modifier;
import java.util.List;
import java.util.Map;
import java.util.Set;
import java.util.TreeMap;
import java.util.TreeSet;

/** The class has the document's face and nothing else that can be seen (LANGUAGE.md, rules 1, 2, 5). */
public final class FaceTest {
    public static void main(String[] args) throws Exception {
        Due due = new Due();
        Face face = new Face();
        due.yes("the document's face has other lines: " + face.others, face.others.isEmpty());
        due.yes("public and final", Modifier.isPublic(ClaimDesk.class.getModifiers())
                && Modifier.isFinal(ClaimDesk.class.getModifiers()));
        constants(due, face);
        constructors(due, face);
        methods(due, face);
        classesInside(due);
        due.end();
    }

    private static void constants(Due due, Face face) throws Exception {
        Map<String, Integer> seen = new TreeMap<>();
        for (Field field : ClaimDesk.class.getFields()) {
            due.yes(field + " is an int", field.getType() == int.class);
            seen.put(field.getName(), field.getInt(null));
        }
        due.yes("the constants are " + seen + ", due are " + face.constants, seen.equals(face.constants));
        for (Field field : ClaimDesk.class.getDeclaredFields()) {
            int modifiers = field.getModifiers();
            due.yes(field + " is public or private", Modifier.isPublic(modifiers) || Modifier.isPrivate(modifiers));
            due.yes(field + " is no changing static", !Modifier.isStatic(modifiers) || Modifier.isFinal(modifiers));
        }
    }

    private static void constructors(Due due, Face face) {
        due.yes("the document has " + face.constructors, face.constructors.equals(List.of("ClaimDesk()")));
        Constructor<?>[] all = ClaimDesk.class.getDeclaredConstructors();
        due.is("constructors", all.length, 1);
        due.yes("it is public", Modifier.isPublic(all[0].getModifiers()));
        due.is("its parameters", all[0].getParameterCount(), 0);
    }

    private static void methods(Due due, Face face) {
        Set<String> wanted = new TreeSet<>();
        for (String method : face.methods) {
            wanted.add(Face.withoutNames(method));
        }
        Set<String> seen = new TreeSet<>();
        Set<String> publicNames = new TreeSet<>();
        Set<String> privateNames = new TreeSet<>();
        for (Method method : ClaimDesk.class.getDeclaredMethods()) {
            if (Modifier.isPublic(method.getModifiers())) {
                due.no(method + " is static", Modifier.isStatic(method.getModifiers()));
                seen.add(told(method));
                publicNames.add(method.getName());
            } else {
                due.yes(method + " is private", Modifier.isPrivate(method.getModifiers()));
                privateNames.add(method.getName());
            }
        }
        due.yes("the methods are " + seen + ", due are " + wanted, seen.equals(wanted));
        privateNames.retainAll(publicNames);
        due.yes("private names that are public ones too: " + privateNames, privateNames.isEmpty());
    }

    private static String told(Method method) {
        StringBuilder text = new StringBuilder(method.getReturnType() + " " + method.getName() + "(");
        for (Class<?> type : method.getParameterTypes()) {
            text.append(text.charAt(text.length() - 1) == '(' ? "" : ",").append(type);
        }
        return text.append(")").toString();
    }

    private static void classesInside(Due due) {
        Class<?>[] inside = ClaimDesk.class.getDeclaredClasses();
        due.yes("at most twelve classes", inside.length < 12);
        for (Class<?> one : inside) {
            int modifiers = one.getModifiers();
            due.yes(one + " is static", Modifier.isStatic(modifiers));
            due.no(one + " is seen", Modifier.isPublic(modifiers) || Modifier.isProtected(modifiers));
            for (Field field : one.getDeclaredFields()) {
                due.yes(field + " is no changing static",
                        !Modifier.isStatic(field.getModifiers()) || Modifier.isFinal(field.getModifiers()));
            }
        }
    }
}
