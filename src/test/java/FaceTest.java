import java.lang.reflect.Constructor;
import java.lang.reflect.Field;
import java.lang.reflect.Member;
import java.lang.reflect.Method;
import java.lang.reflect.Modifier;
import java.util.Set;
import java.util.TreeSet;

/** The public face is the document's, and nothing beside it can be seen (LANGUAGE.md, rule 1). */
public final class FaceTest {
    private static final String[] METHODS = {
        "int acquire(int,int,int)", "int read(int,int,int,int)", "int write(int,int,int,int)", "int flush(int)",
        "int close(int,int)", "int retry(int)", "int messages()", "int message(int)", "boolean deliver(int)",
        "boolean drop(int)", "boolean duplicate(int)", "boolean tick(int,int)", "boolean crash(int)",
        "boolean restart(int)", "int clock(int)", "int lease(int,int)", "int dirty(int)", "int held(int,int)",
        "int waiting(int)", "int stored(int,int)"};

    public static void main(String[] args) {
        Check check = new Check("FaceTest");
        check.due("NONE", LeasedPages.NONE, -1);
        check.due("NO_LEASE", LeasedPages.NO_LEASE, -2);
        check.due("LOST", LeasedPages.LOST, -3);
        check.due("FULL", LeasedPages.FULL, -4);
        check.yes("public", Modifier.isPublic(LeasedPages.class.getModifiers()));
        check.yes("final", Modifier.isFinal(LeasedPages.class.getModifiers()));
        check.yes("methods", seenMethods().equals(new TreeSet<>(Set.of(METHODS))));
        check.yes("fields", seenFields().equals(new TreeSet<>(Set.of("NONE", "NO_LEASE", "LOST", "FULL"))));
        Constructor<?>[] made = LeasedPages.class.getDeclaredConstructors();
        check.due("constructors", made.length, 1);
        check.yes("constructor is public", Modifier.isPublic(made[0].getModifiers()));
        for (Method method : LeasedPages.class.getDeclaredMethods()) {
            check.no(method + " is private with a public name", !seen(method) && bearsPublicName(method));
        }
        for (Class<?> inside : LeasedPages.class.getDeclaredClasses()) {
            checkInside(check, inside);
        }
        check.end();
    }

    private static void checkInside(Check check, Class<?> inside) {
        check.yes(inside + " is static", Modifier.isStatic(inside.getModifiers()));
        check.no(inside + " is public", Modifier.isPublic(inside.getModifiers()));
        for (Method method : inside.getDeclaredMethods()) {
            check.no(method + " bears a public name", bearsPublicName(method));
        }
        for (Field field : inside.getDeclaredFields()) {
            int bits = field.getModifiers();
            check.yes(field + " is no static state", !Modifier.isStatic(bits) || Modifier.isFinal(bits));
        }
    }

    private static boolean bearsPublicName(Method method) {
        for (String face : METHODS) {
            if (face.contains(" " + method.getName() + "(")) {
                return true;
            }
        }
        return false;
    }

    private static boolean seen(Member member) {
        return !Modifier.isPrivate(member.getModifiers()) && !member.isSynthetic();
    }

    private static Set<String> seenMethods() {
        Set<String> seen = new TreeSet<>();
        for (Method method : LeasedPages.class.getDeclaredMethods()) {
            if (seen(method)) {
                StringBuilder text = new StringBuilder(method.getReturnType() + " " + method.getName() + "(");
                for (Class<?> type : method.getParameterTypes()) {
                    text.append(text.charAt(text.length() - 1) == '(' ? "" : ",").append(type);
                }
                seen.add(text.append(")").toString());
            }
        }
        return seen;
    }

    private static Set<String> seenFields() {
        Set<String> seen = new TreeSet<>();
        for (Field field : LeasedPages.class.getDeclaredFields()) {
            if (seen(field)) {
                seen.add(field.getName());
            }
        }
        return seen;
    }
}
