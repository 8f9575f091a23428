import java.lang.reflect.Constructor;
import java.lang.reflect.Field;
import java.lang.reflect.Method;
import java.lang.reflect.Modifier;
import java.util.TreeSet;

/** The public face is the document's, and nothing else shows. */
public final class FaceTest {
    private static final String IAE = "IllegalArgumentException ";
    private static final String ISE = "IllegalStateException ";
    private static final String IOOBE = "IndexOutOfBoundsException ";

    private static final String[] METHODS = {
        "int date(int) " + IAE,
        "int day(int,int,int) " + IAE,
        "int later(int,int) " + IAE,
        "int putOff(int) " + IAE,
        "int holiday(int,int) " + IAE + ISE,
        "int file(boolean) " + ISE,
        "int pass(int) " + IAE + ISE,
        "int pay(int) " + IOOBE + ISE,
        "int payAll() ",
        "int revive(int) " + IOOBE + ISE,
        "int use(int,int) " + IOOBE + IAE + ISE,
        "int setFees(int,int,int,int) " + IAE,
        "int right(int,int) " + IOOBE + IAE,
        "int due(int,int,boolean) " + IOOBE + IAE,
        "boolean stood(int,int) " + IOOBE + IAE,
        "boolean covered(int,int) " + IOOBE + IAE,
        "int user(int,int) " + IOOBE + IAE,
        "int value(int) " + IAE,
        "int nextDue() ",
        "int costs(int) " + IAE,
        "int lapsing(int) " + IAE,
        "double share(int) " + IOOBE,
        "int append(int) " + IAE + ISE,
        "int clearText() ",
        "int parse() ",
        "int undo() " + ISE,
        "long digest() ",
    };

    public static void main(String[] args) {
        checkMethods();
        checkTheRest();
        Check.done("FaceTest");
    }

    private static void checkMethods() {
        TreeSet<String> due = new TreeSet<>();
        TreeSet<String> publicNames = new TreeSet<>();
        for (String method : METHODS) {
            due.add(method);
        }
        TreeSet<String> found = new TreeSet<>();
        for (Method method : FeeDocket.class.getDeclaredMethods()) {
            if (Modifier.isPublic(method.getModifiers())) {
                publicNames.add(method.getName());
                found.add(told(method));
            }
        }
        Check.same("the public methods", found.toString(), due.toString());
        for (Method method : FeeDocket.class.getDeclaredMethods()) {
            int modifiers = method.getModifiers();
            if (!Modifier.isPublic(modifiers)) {
                Check.same(method + " is private", Modifier.isPrivate(modifiers), true);
                Check.same(method + " has a name of its own", publicNames.contains(method.getName()), false);
            }
        }
    }

    private static void checkTheRest() {
        int modifiers = FeeDocket.class.getModifiers();
        Check.same("public and final", Modifier.isPublic(modifiers) && Modifier.isFinal(modifiers), true);
        Constructor<?>[] constructors = FeeDocket.class.getDeclaredConstructors();
        Check.same("constructors", constructors.length, 1);
        Check.same("it is public", Modifier.isPublic(constructors[0].getModifiers()), true);
        Check.same("its parameters", constructors[0].getParameterCount(), 0);
        Check.same("NONE", FeeDocket.NONE, -1);
        for (Field field : FeeDocket.class.getDeclaredFields()) {
            boolean isPrivate = Modifier.isPrivate(field.getModifiers());
            Check.same(field + " is private", isPrivate, !field.getName().equals("NONE"));
        }
        for (Class<?> inside : FeeDocket.class.getDeclaredClasses()) {
            boolean isShown = Modifier.isPublic(inside.getModifiers()) || Modifier.isProtected(inside.getModifiers());
            Check.same(inside + " shows", isShown, false);
            Check.same(inside + " is static", Modifier.isStatic(inside.getModifiers()), true);
        }
    }

    private static String told(Method method) {
        StringBuilder text = new StringBuilder();
        text.append(method.getReturnType().getSimpleName()).append(' ').append(method.getName()).append('(');
        for (Class<?> type : method.getParameterTypes()) {
            text.append(text.charAt(text.length() - 1) == '(' ? "" : ",").append(type.getSimpleName());
        }
        text.append(") ");
        for (Class<?> type : method.getExceptionTypes()) {
            text.append(type.getSimpleName()).append(' ');
        }
        return text.toString();
    }
}
