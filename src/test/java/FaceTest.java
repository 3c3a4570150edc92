import java.lang.reflect.Constructor;
import java.lang.reflect.Field;
import java.lang.reflect.Method;
import java.lang.reflect.Modifier;
import java.util.Arrays;
import java.util.HashSet;
import java.util.Set;
import java.util.TreeSet;

/** The document's public face, and the rules of LANGUAGE.md on members, by reflection. */
public final class FaceTest {
    private static final Due due = new Due();

    private static final String[] FACE = {
        "int write(int)", "int wipe()", "int fault()", "int county()", "int about(int)",
        "int person(int,int)", "int take(int)", "int free(int)", "int die(int)",
        "int feed(int,int)", "int grade(int,int)", "int day()", "int undo()", "int fall()",
        "int place(int)", "int last()", "int toFeed(int,int)", "int giveUp(int)",
        "int claim(int)", "int share(int,boolean)", "int see(int,int)", "int unsee()",
        "int did(int)", "int rests(int,int,int)", "int toss(int,boolean)", "long seed(long)",
        "int days(int)", "int keep(int)", "int again(int)",
    };

    public static void main(String[] args) throws Exception {
        Class<?> face = ArrestOrder.class;
        due.holds("the class is public and final",
            Modifier.isPublic(face.getModifiers()) && Modifier.isFinal(face.getModifiers()));
        checkMethods(face);
        checkFields(face);
        checkConstructors(face);
        checkNested(face);
        due.end();
    }

    private static String signature(Method method) {
        StringBuilder told = new StringBuilder(method.getReturnType().getName());
        told.append(' ').append(method.getName()).append('(');
        String comma = "";
        for (Class<?> type : method.getParameterTypes()) {
            told.append(comma).append(type.getName());
            comma = ",";
        }
        return told.append(')').toString();
    }

    private static void checkMethods(Class<?> face) {
        Set<String> found = new TreeSet<>();
        Set<String> publicNames = new HashSet<>();
        for (Method method : face.getDeclaredMethods()) {
            if (Modifier.isPublic(method.getModifiers())) {
                found.add(signature(method));
                publicNames.add(method.getName());
                due.holds(method + " is not static", !Modifier.isStatic(method.getModifiers()));
            } else {
                due.holds(method + " is private", Modifier.isPrivate(method.getModifiers()));
            }
            due.holds(method + " has seven parameters at most", method.getParameterCount() <= 7);
        }
        due.holds("the public methods are " + found, found.equals(new TreeSet<>(Arrays.asList(FACE))));
        for (Class<?> holder : withNested(face)) {
            for (Method method : holder.getDeclaredMethods()) {
                due.holds(method + " bears no public one's name",
                    Modifier.isPublic(method.getModifiers()) || !publicNames.contains(method.getName()));
            }
        }
    }

    private static void checkFields(Class<?> face) throws Exception {
        String[] names = {"UNKNOWN", "BAD", "LATE", "FULL", "NONE"};
        int[] values = {-1, -2, -3, -4, -9};
        for (int i = 0; i < names.length; i++) {
            due.is(names[i], values[i], face.getField(names[i]).getInt(null));
        }
        for (Class<?> holder : withNested(face)) {
            int own = 0;
            for (Field field : holder.getDeclaredFields()) {
                int modifiers = field.getModifiers();
                boolean constant = Arrays.asList(names).contains(field.getName());
                due.holds(field + " is private or a constant of the face",
                    constant ? Modifier.isPublic(modifiers) : Modifier.isPrivate(modifiers));
                if (Modifier.isStatic(modifiers)) {
                    due.holds(field + " is final", Modifier.isFinal(modifiers));
                } else {
                    own++;
                }
            }
            due.holds(holder + " has some twenty fields at most", own <= 20);
        }
    }

    private static void checkConstructors(Class<?> face) {
        Constructor<?>[] all = face.getDeclaredConstructors();
        due.holds("one public constructor without parameters", all.length == 1
            && Modifier.isPublic(all[0].getModifiers()) && all[0].getParameterCount() == 0);
    }

    private static void checkNested(Class<?> face) {
        due.holds("some twelve classes at most", withNested(face).length <= 12);
        for (Class<?> nested : face.getDeclaredClasses()) {
            int modifiers = nested.getModifiers();
            due.holds(nested + " is static and not public", Modifier.isStatic(modifiers)
                && !Modifier.isPublic(modifiers) && !Modifier.isProtected(modifiers));
        }
    }

    private static Class<?>[] withNested(Class<?> face) {
        Class<?>[] nested = face.getDeclaredClasses();
        Class<?>[] all = Arrays.copyOf(nested, nested.length + 1);
        all[nested.length] = face;
        return all;
    }
}
