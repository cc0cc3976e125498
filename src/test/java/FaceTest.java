import java.lang.reflect.Constructor;
import java.lang.reflect.Field;
import java.lang.reflect.Method;
import java.lang.reflect.Modifier;
import java.util.Set;
import java.util.TreeSet;

/** The class has the document's face and no other member that can be seen. */
public final class FaceTest {
    private static final String[] FACE = {
        "int feed(long,long,long)", "int prison()", "int cell(int,int)", "int door(int,int)",
        "int man(int,int) throws java.util.NoSuchElementException",
        "int degrees(int) throws java.util.NoSuchElementException", "int pour(int,int)", "boolean salt(int,int)",
        "boolean stove(int,int)", "boolean pardon(int)", "int hours(int)", "int soon(int,int)", "int needs(int,int)", "int first(int,int)",
        "int enough(int,int)", "int plan(int,int)", "int escape(int,int)", "int salted(int)", "int beside(int)",
        "int thaw(int)", "int amnesty(int,int)", "int lots(int,int,int,int)", "boolean mark(int,boolean)",
        "int count(int)",
    };

    public static void main(String[] args) {
        Check check = new Check();
        int open = Modifier.PUBLIC;
        check.due("the class is public and final", FrostLocks.class.getModifiers(), open | Modifier.FINAL);
        Set<String> want = new TreeSet<>(Set.of(FACE));
        Set<String> got = new TreeSet<>();
        for (Method method : FrostLocks.class.getDeclaredMethods()) {
            if (!Modifier.isPrivate(method.getModifiers())) {
                got.add(signature(method));
                check.due(method + " is public, no more", method.getModifiers(), open);
            }
        }
        check.due("methods " + got + " against " + want, got.equals(want), true);
        for (Field field : FrostLocks.class.getDeclaredFields()) {
            if (field.getName().equals("NONE")) {
                int constant = open | Modifier.STATIC | Modifier.FINAL;
                check.due("NONE is a public constant", field.getModifiers(), constant);
                check.due("NONE is an int", field.getType() == int.class, true);
            } else {
                check.due(field + " is private", Modifier.isPrivate(field.getModifiers()), true);
            }
        }
        Constructor<?>[] made = FrostLocks.class.getDeclaredConstructors();
        check.due("constructors", made.length, 1);
        check.due("the constructor is public, no more", made[0].getModifiers(), open);
        check.due("the constructor's arguments", made[0].getParameterCount(), 0);
        check.due("what the constructor throws", made[0].getExceptionTypes().length, 0);
        check.due("NONE", FrostLocks.NONE, -1);
        for (Class<?> inside : FrostLocks.class.getDeclaredClasses()) {
            int seen = inside.getModifiers() & (Modifier.PUBLIC | Modifier.PROTECTED);
            check.due(inside + " can be seen", seen, 0);
            check.due(inside + " is static", Modifier.isStatic(inside.getModifiers()), true);
        }
        check.due("interfaces", FrostLocks.class.getInterfaces().length, 0);
        check.due("nothing above it", FrostLocks.class.getSuperclass() == Object.class, true);
        check.end();
    }

    private static String signature(Method method) {
        StringBuilder text = new StringBuilder(method.getReturnType().getName());
        text.append(' ').append(method.getName()).append('(');
        for (Class<?> type : method.getParameterTypes()) {
            text.append(text.charAt(text.length() - 1) == '(' ? "" : ",").append(type.getName());
        }
        text.append(')');
        for (Class<?> thrown : method.getExceptionTypes()) {
            text.append(" throws ").append(thrown.getName());
        }
        return text.toString();
    }
}
