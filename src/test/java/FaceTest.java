import java.lang.reflect.Constructor;
import java.lang.reflect.Field;
import java.lang.reflect.Member;
import java.lang.reflect.Method;
import java.lang.reflect.Modifier;
import java.util.Set;
import java.util.TreeSet;

/** The public face is the document's, and nothing else of the class can be reached. */
final class FaceTest {
    private static final String[] METHODS = {
        "int write(int)", "int wipe()", "int fault()", "int lay()", "int guest(int,int)", "int wish(int,int)",
        "int leave(int)", "int move(int,int)", "int strike(int,boolean)", "int undo()", "int good(int)",
        "int soonest(int)", "int most(int)", "int core()", "int place(int,int)", "int ahead(int,int)",
        "int hangs(int)", "int woken(int,int)", "int forget()", "int slates(int)", "int washed()", "int two(int)",
        "int overslept(int,int,int)", "int dawn(int,int,int)", "int keep()", "int back()", "int count(int)"
    };
    private static final Check CHECK = new Check("FaceTest");

    public static void main(String[] args) {
        Class<?> face = BootsAtDawn.class;
        CHECK.holds("public final class", Modifier.isPublic(face.getModifiers()) && Modifier.isFinal(face.getModifiers()));
        constants();
        constructors(face);
        methods(face);
        classesInside(face);
        CHECK.end();
    }

    private static void constants() {
        CHECK.due("BAD", BootsAtDawn.BAD, -1);
        CHECK.due("NO", BootsAtDawn.NO, -2);
        CHECK.due("FULL", BootsAtDawn.FULL, -3);
        CHECK.due("NONE", BootsAtDawn.NONE, -4);
        for (Field field : BootsAtDawn.class.getDeclaredFields()) {
            boolean told = Set.of("BAD", "NO", "FULL", "NONE").contains(field.getName());
            CHECK.holds("field " + field.getName(), told ? isPublic(field) : isPrivate(field));
        }
    }

    private static void constructors(Class<?> face) {
        Constructor<?>[] all = face.getDeclaredConstructors();
        CHECK.due("constructors", all.length, 1);
        CHECK.holds("public constructor of nothing", isPublic(all[0]) && all[0].getParameterCount() == 0);
    }

    private static void methods(Class<?> face) {
        Set<String> want = new TreeSet<>(Set.of(METHODS));
        Set<String> got = new TreeSet<>();
        Set<String> names = new TreeSet<>();
        for (Method method : face.getDeclaredMethods()) {
            if (isPublic(method)) {
                got.add(told(method));
                names.add(method.getName());
            }
        }
        CHECK.due("public methods", got.size(), want.size());
        CHECK.holds("public methods as told: " + got, got.equals(want));
        for (Method method : face.getDeclaredMethods()) {
            CHECK.holds("member " + method, isPublic(method) || isPrivate(method) && !names.contains(method.getName()));
        }
        for (Class<?> inside : face.getDeclaredClasses()) {
            for (Method method : inside.getDeclaredMethods()) {
                CHECK.holds("name of " + method, !names.contains(method.getName()));
            }
        }
    }

    private static void classesInside(Class<?> face) {
        CHECK.holds("at most some twelve classes", face.getDeclaredClasses().length < 12);
        for (Class<?> inside : face.getDeclaredClasses()) {
            int modifiers = inside.getModifiers();
            CHECK.holds("class " + inside, Modifier.isStatic(modifiers) && !Modifier.isPublic(modifiers) && !Modifier.isProtected(modifiers));
        }
    }

    private static String told(Method method) {
        StringBuilder parts = new StringBuilder();
        for (Class<?> part : method.getParameterTypes()) {
            parts.append(parts.length() == 0 ? "" : ",").append(part.getName());
        }
        return method.getReturnType().getName() + " " + method.getName() + "(" + parts + ")";
    }

    private static boolean isPublic(Member member) {
        return Modifier.isPublic(member.getModifiers());
    }

    private static boolean isPrivate(Member member) {
        return Modifier.isPrivate(member.getModifiers());
    }
}
