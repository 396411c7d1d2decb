import java.lang.reflect.Constructor;
import java.lang.reflect.Field;
import java.lang.reflect.Method;
import java.lang.reflect.Modifier;
import java.util.Arrays;
import java.util.Set;
import java.util.TreeSet;

/** The class shows the document's face and nothing else (LANGUAGE.md, rules 1, 2 and 5). */
public final class FaceTest {
    private static final String[] FACE = {"int feed(int,int,int,int,int)", "int machine(int)", "int fault()",
        "int where()", "int bad()", "int badAt()", "int state(int,int)", "int arc(int,int)", "int gate(int,int)",
        "int at(int,int)", "int points(int,int)", "int required(int)", "int requiredCube(int,int)", "int falls(int)",
        "int safe(int,int)", "int primes(int)", "int prime(int,int)", "int needed(int)", "int lacking(int)",
        "int fewest(int)", "int chosen(int,int)", "int literals(int)", "int formula(int)", "int sign(int,int)",
        "int harm(int,int)", "int glitch(int)", "int run(int,int,boolean)", "int runBurst(int,int,boolean)",
        "int settles(int)", "int settled(int)", "int push(int)", "int walk(int)", "int shown()", "int codings(int)",
        "int coding(int,int)", "int recode(int,int)", "int strike(int)", "int add(int,int)", "boolean undo()",
        "int last(int)", "int size(int)", "int trouble()"};

    private static int wrong;

    public static void main(String[] args) {
        check("the class is public and final",
                Modifier.isPublic(BurstDesk.class.getModifiers()) && Modifier.isFinal(BurstDesk.class.getModifiers()));
        check("no package", BurstDesk.class.getPackageName().isEmpty());
        Set<String> names = new TreeSet<>();
        methods(names);
        for (Field field : BurstDesk.class.getDeclaredFields()) {
            boolean open = !Modifier.isPrivate(field.getModifiers()) && !field.isSynthetic();
            check("field " + field.getName(), !open || field.getName().equals("NONE"));
        }
        Constructor<?>[] constructors = BurstDesk.class.getDeclaredConstructors();
        check("one constructor without parameters",
                constructors.length == 1 && constructors[0].getParameterCount() == 0
                        && Modifier.isPublic(constructors[0].getModifiers()));
        for (Class<?> inside : BurstDesk.class.getDeclaredClasses()) {
            insideClass(inside, names);
        }
        check("twelve classes at most", BurstDesk.class.getDeclaredClasses().length < 12);
        System.out.println(wrong == 0 ? "the face is as due" : wrong + " faults of the face");
        if (wrong != 0) {
            System.exit(1);
        }
    }

    private static void methods(Set<String> names) {
        Set<String> open = new TreeSet<>();
        for (Method method : BurstDesk.class.getDeclaredMethods()) {
            if (!Modifier.isPrivate(method.getModifiers()) && !method.isSynthetic()) {
                StringBuilder told = new StringBuilder(method.getReturnType() + " " + method.getName() + "(");
                String types = String.join(",", Arrays.stream(method.getParameterTypes()).map(Class::getName).toList());
                open.add(told.append(types).append(')').toString());
                names.add(method.getName());
                check("public: " + method.getName(), Modifier.isPublic(method.getModifiers()));
            }
        }
        check("the methods: " + open, open.equals(new TreeSet<>(Arrays.asList(FACE))));
        for (Method method : BurstDesk.class.getDeclaredMethods()) {
            boolean hidden = Modifier.isPrivate(method.getModifiers());
            check("a private method of a public one's name: " + method.getName(),
                    !hidden || !names.contains(method.getName()));
        }
    }

    private static void insideClass(Class<?> inside, Set<String> names) {
        int modifiers = inside.getModifiers();
        check(inside + " is static", Modifier.isStatic(modifiers));
        check(inside + " is not open", !Modifier.isPublic(modifiers) && !Modifier.isProtected(modifiers));
        int own = 0;
        for (Field field : inside.getDeclaredFields()) {
            own += Modifier.isStatic(field.getModifiers()) ? 0 : 1;
            boolean still = !Modifier.isStatic(field.getModifiers()) || Modifier.isFinal(field.getModifiers());
            check(inside + "." + field.getName() + " is static and not final", still);
        }
        check(inside + " has " + own + " fields", own <= 20);
        for (Method method : inside.getDeclaredMethods()) {
            check(inside + "." + method.getName() + " bears a public name", !names.contains(method.getName()));
            check(inside + "." + method.getName() + " has too many parameters", method.getParameterCount() <= 7);
        }
    }

    private static void check(String what, boolean holds) {
        if (!holds) {
            wrong++;
            System.out.println("not so: " + what);
        }
    }
}
