import java.lang.reflect.Constructor;
import java.lang.reflect.Field;
import java.lang.reflect.Method;
import java.lang.reflect.Modifier;
import java.util.Set;
import java.util.TreeSet;

/** The public face of the document, and those rules of LANGUAGE.md that the compiled class shows. */
final class FaceTest {
    private static final Check check = new Check();
    private static final String[] FACE = {"amount(int,int) void", "moment(int,int) void", "epsilon() void",
        "fact(int,boolean) void", "number(int) void", "wish(int,int) void", "want(int,int) void", "action() int",
        "need(int,int,int,boolean) void", "compare(int,int,int,int) void", "make(int,int,int,boolean) void",
        "change(int,int,int,int) void", "last(int,int,int) void", "step(int) int", "clear() void", "judge() int",
        "push(int) void", "pop() int", "arrange() int", "seek(int) int", "count(int) int", "done(int) int", "at(int) int",
        "above(int,int) long", "below(int,int) long", "holds(int) boolean"};

    private FaceTest() {
    }

    public static void main(String[] args) {
        Class<?> type = PlanJudge.class;
        check.part("the face");
        check.so("public and final", Modifier.isPublic(type.getModifiers()) && Modifier.isFinal(type.getModifiers()));
        Set<String> names = new TreeSet<>();
        Set<String> face = new TreeSet<>();
        for (Method m : type.getDeclaredMethods()) {
            if (Modifier.isPublic(m.getModifiers())) {
                face.add(signature(m));
                names.add(m.getName());
            }
        }
        for (String due : FACE) {
            check.so(due + " is there", face.remove(due));
        }
        check.same("other public methods " + face, face.size(), 0);
        constructors(type);
        check.part("LANGUAGE.md");
        privateMembers(type, names);
        for (Class<?> inside : type.getDeclaredClasses()) {
            check.so(inside + " is static", Modifier.isStatic(inside.getModifiers()));
            check.so(inside + " isn't public", (inside.getModifiers() & (Modifier.PUBLIC | Modifier.PROTECTED)) == 0);
            insideMembers(inside, names);
        }
        check.so("some twelve classes", type.getDeclaredClasses().length + 1 <= 12);
        check.close();
    }

    private static String signature(Method m) {
        StringBuilder text = new StringBuilder(m.getName()).append('(');
        for (Class<?> p : m.getParameterTypes()) {
            text.append(text.charAt(text.length() - 1) == '(' ? "" : ",").append(p.getName());
        }
        return text.append(") ").append(m.getReturnType().getName()).toString();
    }

    private static void constructors(Class<?> type) {
        Constructor<?>[] all = type.getDeclaredConstructors();
        check.same("constructors", all.length, 1);
        check.so("public, without parameters", Modifier.isPublic(all[0].getModifiers()) && all[0].getParameterCount() == 0);
    }

    private static void privateMembers(Class<?> type, Set<String> names) {
        for (Method m : type.getDeclaredMethods()) {
            boolean isPublic = Modifier.isPublic(m.getModifiers());
            check.so(m + " is public or private", isPublic || Modifier.isPrivate(m.getModifiers()));
            check.so(m + " has a name of its own", isPublic || !names.contains(m.getName()));
            check.so(m + " has at most seven parameters", m.getParameterCount() <= 7);
        }
        for (Field f : type.getDeclaredFields()) {
            check.so(f + " is private", Modifier.isPrivate(f.getModifiers()));
        }
        staticsAreFinal(type);
    }

    private static void insideMembers(Class<?> inside, Set<String> names) {
        int fields = 0;
        for (Field f : inside.getDeclaredFields()) {
            fields += Modifier.isStatic(f.getModifiers()) ? 0 : 1;
        }
        check.so(inside + " has some twenty fields", fields <= 20);
        for (Method m : inside.getDeclaredMethods()) {
            check.so(m + " has a name of its own", !names.contains(m.getName()));
            check.so(m + " has at most seven parameters", m.getParameterCount() <= 7);
        }
        staticsAreFinal(inside);
    }

    private static void staticsAreFinal(Class<?> type) {
        for (Field f : type.getDeclaredFields()) {
            check.so(f + " is final if static", !Modifier.isStatic(f.getModifiers()) || Modifier.isFinal(f.getModifiers()));
        }
    }
}
