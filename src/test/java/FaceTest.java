import java.lang.reflect.Constructor;
import java.lang.reflect.Field;
import java.lang.reflect.Member;
import java.lang.reflect.Method;
import java.lang.reflect.Modifier;
import java.util.TreeSet;

/** The public face: every constant, constructor and method of the document, and no other one. */
public final class FaceTest {
    private static final String INDEX = "IndexOutOfBoundsException";
    private static final String ARGUMENT = "IllegalArgumentException";
    private static final String STATE = "IllegalStateException";

    private static final String[] METHODS = {
        "void setShares(int,int,int,int,int) " + ARGUMENT + " " + STATE,
        "int setPenalty(int) " + ARGUMENT,
        "int setOverhead(int) " + ARGUMENT,
        "int addWell() " + STATE,
        "boolean elect(int,int,boolean) " + INDEX + " " + STATE,
        "int cost(int,int) " + INDEX + " " + ARGUMENT + " " + STATE,
        "int overhead(int,int) " + INDEX + " " + ARGUMENT + " " + STATE,
        "int income(int,int) " + INDEX + " " + ARGUMENT + " " + STATE,
        "int move(int,int) " + INDEX + " " + STATE,
        "int vouchers()",
        "int wellOf(int) " + INDEX,
        "int amountOf(int) " + INDEX,
        "boolean isIn(int,int) " + INDEX,
        "long toEarn(int,int) " + INDEX,
        "int backAt(int,int) " + INDEX,
        "int charged(int,int) " + INDEX,
        "int credited(int,int) " + INDEX,
        "int weight(int,int) " + INDEX,
        "int call(int,int) " + INDEX + " " + ARGUMENT + " " + STATE,
        "int pay(int,int) " + INDEX + " " + STATE,
        "int shareOut(int) " + INDEX + " " + STATE,
        "int asked(int,int) " + INDEX,
        "int paid(int) " + INDEX,
        "int owes(int) " + INDEX,
        "long balance(int) " + INDEX,
    };

    public static void main(String[] args) {
        TreeSet<String> due = new TreeSet<>();
        for (String method : METHODS) {
            due.add(method);
        }
        TreeSet<String> names = new TreeSet<>();
        TreeSet<String> got = new TreeSet<>();
        for (Method method : JointVenture.class.getDeclaredMethods()) {
            if (!isPrivate(method)) {
                got.add(signatureOf(method));
                names.add(method.getName());
            }
        }
        Check.equal("methods", got.toString(), due.toString());
        for (Method method : JointVenture.class.getDeclaredMethods()) {
            Check.equal("a private " + method.getName(), isPrivate(method) && names.contains(method.getName()), false);
        }
        constants();
        Constructor<?>[] constructors = JointVenture.class.getDeclaredConstructors();
        Check.equal("constructors", constructors.length, 1);
        Check.equal("its parameters", constructors[0].getParameterCount(), 0);
        Check.equal("it is public", Modifier.isPublic(constructors[0].getModifiers()), true);
        int modifiers = JointVenture.class.getModifiers();
        Check.equal("public and final", Modifier.isPublic(modifiers) && Modifier.isFinal(modifiers), true);
        Check.end();
    }

    private static void constants() {
        for (Field field : JointVenture.class.getDeclaredFields()) {
            Check.equal("visible is " + field.getName(), !isPrivate(field), field.getName().equals("NONE"));
            if (Modifier.isStatic(field.getModifiers())) {
                Check.equal("final is " + field.getName(), Modifier.isFinal(field.getModifiers()), true);
            }
        }
    }

    private static boolean isPrivate(Member member) {
        return Modifier.isPrivate(member.getModifiers());
    }

    private static String signatureOf(Method method) {
        StringBuilder text = new StringBuilder();
        text.append(method.getReturnType()).append(' ').append(method.getName()).append('(');
        for (int number = 0; number < method.getParameterCount(); number++) {
            text.append(number > 0 ? "," : "").append(method.getParameterTypes()[number]);
        }
        text.append(')');
        for (Class<?> thrown : method.getExceptionTypes()) {
            text.append(' ').append(thrown.getSimpleName());
        }
        return text.toString();
    }
}
