import java.lang.reflect.Constructor;
import java.lang.reflect.Field;
import java.lang.reflect.Method;
import java.lang.reflect.Modifier;
import java.util.Arrays;
import java.util.Set;
import java.util.TreeSet;

/** The public face: its members, what they throw, the constants, and nothing else. */
public final class FaceTest {
    private static final String[] METHODS = {
        "int code(int,int) IllegalArgumentException IllegalStateException",
        "int input(int) IllegalArgumentException IllegalStateException",
        "int clear()",
        "int run(int,int) IllegalArgumentException",
        "int problem(int,int) IllegalArgumentException IllegalStateException",
        "int test(int,int) IndexOutOfBoundsException IllegalStateException",
        "int points(int,int,int) IndexOutOfBoundsException IllegalArgumentException",
        "int mend(int,int) IndexOutOfBoundsException IllegalArgumentException IllegalStateException",
        "int answer(int,int,int) IndexOutOfBoundsException",
        "int enter(int,int) IndexOutOfBoundsException IllegalStateException",
        "int pass(int) IllegalArgumentException IllegalStateException",
        "int judge()",
        "int rejudge(int) IndexOutOfBoundsException",
        "int entry(int,int) IndexOutOfBoundsException IllegalArgumentException",
        "int likeness(int,int) IndexOutOfBoundsException",
        "void freeze(int) IllegalArgumentException",
        "int reveal()",
        "int board(int,boolean,int) IndexOutOfBoundsException IllegalArgumentException",
        "int placeAnew(int) IndexOutOfBoundsException",
        "boolean hack(int,int) IndexOutOfBoundsException IllegalStateException",
    };
    private static final String[] CONSTANTS = {
        "NONE=-1", "READ=0", "PUSH=1", "ADD=2", "SUB=3", "MUL=4", "DUP=5", "SWAP=6", "JZ=7", "JUMP=8", "PRINT=9",
        "RIGHT=0", "WRONG=1", "SLOW=2", "MEMORY=3", "CRASHED=4", "SILENT=5", "EXACT=0", "NEAR=1",
    };

    public static void main(String[] args) throws IllegalAccessException {
        Check.due("final", true, Modifier.isFinal(RejudgeHall.class.getModifiers()));
        Constructor<?>[] made = RejudgeHall.class.getDeclaredConstructors();
        Check.due("constructors", 1, made.length);
        Check.due("public", true, Modifier.isPublic(made[0].getModifiers()));
        Check.due("without arguments", 0, made[0].getParameterCount());
        methods();
        constants();
        inside();
        Check.end();
    }

    private static void methods() {
        Set<String> found = new TreeSet<>();
        Set<String> names = new TreeSet<>();
        for (Method method : RejudgeHall.class.getDeclaredMethods()) {
            if (!Modifier.isPrivate(method.getModifiers())) {
                found.add(told(method));
                names.add(method.getName());
            }
        }
        same("methods", found, METHODS);
        for (Method method : RejudgeHall.class.getDeclaredMethods()) {
            boolean isTwin = Modifier.isPrivate(method.getModifiers()) && names.contains(method.getName());
            Check.due("private with a public name: " + method.getName(), false, isTwin);
        }
    }

    private static String told(Method method) {
        StringBuilder text = new StringBuilder();
        text.append(Modifier.isPublic(method.getModifiers()) ? "" : "not public ");
        text.append(method.getReturnType().getName()).append(' ').append(method.getName()).append('(');
        for (int i = 0; i < method.getParameterCount(); i++) {
            text.append(i == 0 ? "" : ",").append(method.getParameterTypes()[i].getName());
        }
        text.append(')');
        for (Class<?> thrown : method.getExceptionTypes()) {
            text.append(' ').append(thrown.getSimpleName());
        }
        return text.toString();
    }

    private static void constants() throws IllegalAccessException {
        Set<String> found = new TreeSet<>();
        for (Field field : RejudgeHall.class.getDeclaredFields()) {
            if (!Modifier.isPrivate(field.getModifiers())) {
                boolean isConstant = Modifier.isStatic(field.getModifiers()) && Modifier.isFinal(field.getModifiers());
                found.add(isConstant ? field.getName() + "=" + field.get(null) : "not a constant: " + field);
            }
        }
        same("constants", found, CONSTANTS);
    }

    private static void inside() {
        for (Class<?> inner : RejudgeHall.class.getDeclaredClasses()) {
            int modifiers = inner.getModifiers();
            boolean isHidden = !Modifier.isPublic(modifiers) && !Modifier.isProtected(modifiers);
            Check.due("hidden: " + inner, true, isHidden);
            Check.due("static: " + inner, true, Modifier.isStatic(modifiers));
        }
    }

    private static void same(String name, Set<String> found, String[] due) {
        Set<String> want = new TreeSet<>(Arrays.asList(due));
        for (String one : want) {
            Check.due(name + ", there: " + one, true, found.contains(one));
        }
        for (String one : found) {
            Check.due(name + ", due: " + one, true, want.contains(one));
        }
    }
}
