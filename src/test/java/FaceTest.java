import java.lang.reflect.Constructor;
import java.lang.reflect.Executable;
import java.lang.reflect.Field;
import java.lang.reflect.Method;
import java.lang.reflect.Modifier;
import java.util.Arrays;
import java.util.Set;
import java.util.TreeSet;

/** The public face: the document's members with its types, and no other that is not private but classes. */
public final class FaceTest {
    private static final Set<String> FACE = new TreeSet<>(Arrays.asList(
        "UNKNOWN int -101", "OUTSIDE int -102", "STATE int -103", "ROOM int -104",
        "new(int)",
        "int picture(long,int)", "int give(int,long)", "int answer(int,int,int,long)",
        "int office(int,int,int)", "int leave(int)", "int tick(long)", "int settled(int)",
        "int state(int)", "long agreement(int,int,int)", "int waiting()"));

    public static void main(String[] args) throws IllegalAccessException {
        Check check = new Check("FaceTest");
        Set<String> found = new TreeSet<>();
        for (Field field : ClerkRows.class.getDeclaredFields()) {
            if (!Modifier.isPrivate(field.getModifiers())) {
                check.due(field + " is public static final",
                    field.getModifiers() == (Modifier.PUBLIC | Modifier.STATIC | Modifier.FINAL));
                found.add(field.getName() + " " + field.getType() + " " + field.get(null));
            }
        }
        for (Constructor<?> made : ClerkRows.class.getDeclaredConstructors()) {
            addCall(check, found, made, "new");
        }
        for (Method method : ClerkRows.class.getDeclaredMethods()) {
            addCall(check, found, method, method.getReturnType() + " " + method.getName());
        }
        check.due("the face is " + found, found.equals(FACE));
        dueOfPrivateNames(check);
        dueOfClassesInside(check);
        check.due("the class is public and final",
            ClerkRows.class.getModifiers() == (Modifier.PUBLIC | Modifier.FINAL));
        check.end();
    }

    /** LANGUAGE.md, rule 1: no private method bears the name of a public one. */
    private static void dueOfPrivateNames(Check check) {
        Set<String> open = new TreeSet<>();
        for (Method method : ClerkRows.class.getMethods()) {
            open.add(method.getName());
        }
        for (Method method : ClerkRows.class.getDeclaredMethods()) {
            if (Modifier.isPrivate(method.getModifiers())) {
                check.due(method + " has a name of its own", !open.contains(method.getName()));
            }
        }
    }

    /** LANGUAGE.md, rule 1: the classes inside are private or package-visible, and static. */
    private static void dueOfClassesInside(Check check) {
        for (Class<?> inside : ClerkRows.class.getDeclaredClasses()) {
            int is = inside.getModifiers();
            check.due(inside + " is static and not for others",
                Modifier.isStatic(is) && !Modifier.isPublic(is) && !Modifier.isProtected(is));
        }
    }

    private static void addCall(Check check, Set<String> found, Executable call, String start) {
        if (Modifier.isPrivate(call.getModifiers())) {
            return;
        }
        check.due(call + " is public alone", call.getModifiers() == Modifier.PUBLIC);
        StringBuilder types = new StringBuilder();
        for (Class<?> type : call.getParameterTypes()) {
            types.append(types.length() == 0 ? "" : ",").append(type);
        }
        found.add(start + "(" + types + ")");
    }
}
