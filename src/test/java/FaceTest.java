import java.lang.reflect.Constructor;
import java.lang.reflect.Executable;
import java.lang.reflect.Field;
import java.lang.reflect.Member;
import java.lang.reflect.Method;
import java.lang.reflect.Modifier;
import java.lang.reflect.Parameter;
import java.util.Set;
import java.util.TreeSet;

/** The public face: every constant, constructor and method as the document writes it, and no other one. */
public final class FaceTest {
    private static final String[] FACE = {
        "public static final int NONE",
        "public JointVenture()",
        "public void setShares(int first, int second, int third, int fourth, int fifth)"
                + " throws IllegalArgumentException, IllegalStateException",
        "public int setPenalty(int penalty) throws IllegalArgumentException",
        "public int setOverhead(int overhead) throws IllegalArgumentException",
        "public int addWell() throws IllegalStateException",
        "public boolean elect(int well, int partner, boolean isIn)"
                + " throws IndexOutOfBoundsException, IllegalStateException",
        "public int cost(int well, int amount)"
                + " throws IndexOutOfBoundsException, IllegalArgumentException, IllegalStateException",
        "public int overhead(int well, int months)"
                + " throws IndexOutOfBoundsException, IllegalArgumentException, IllegalStateException",
        "public int income(int well, int amount)"
                + " throws IndexOutOfBoundsException, IllegalArgumentException, IllegalStateException",
        "public int move(int voucher, int well) throws IndexOutOfBoundsException, IllegalStateException",
        "public int vouchers()",
        "public int wellOf(int voucher) throws IndexOutOfBoundsException",
        "public int amountOf(int voucher) throws IndexOutOfBoundsException",
        "public boolean isIn(int well, int partner) throws IndexOutOfBoundsException",
        "public long toEarn(int well, int partner) throws IndexOutOfBoundsException",
        "public int backAt(int well, int partner) throws IndexOutOfBoundsException",
        "public int charged(int well, int partner) throws IndexOutOfBoundsException",
        "public int credited(int well, int partner) throws IndexOutOfBoundsException",
        "public int weight(int well, int partner) throws IndexOutOfBoundsException",
        "public int call(int well, int amount)"
                + " throws IndexOutOfBoundsException, IllegalArgumentException, IllegalStateException",
        "public int pay(int call, int partner) throws IndexOutOfBoundsException, IllegalStateException",
        "public int shareOut(int call) throws IndexOutOfBoundsException, IllegalStateException",
        "public int asked(int call, int partner) throws IndexOutOfBoundsException",
        "public int paid(int partner) throws IndexOutOfBoundsException",
        "public int owes(int partner) throws IndexOutOfBoundsException",
        "public long balance(int partner) throws IndexOutOfBoundsException",
    };

    public static void main(String[] args) {
        Check.runAll(FaceTest.class);
    }

    static void theClassIsPublicAndFinalAndNothingElse() {
        Class<?> face = JointVenture.class;
        Check.equal("its modifiers", Modifier.toString(face.getModifiers()), "public final");
        Check.equal("its package", face.getPackageName(), "");
        Check.equal("what it extends", face.getSuperclass().getName(), "java.lang.Object");
        Check.equal("how many interfaces it has", face.getInterfaces().length, 0);
    }

    static void eachMemberOfTheDocumentIsThereAsItIsWritten() {
        Set<String> got = visibleMembers();
        for (String member : FACE) {
            Check.equal(member, got.contains(member), true);
        }
    }

    static void noOtherMemberIsVisible() {
        Set<String> due = Set.of(FACE);
        for (String member : visibleMembers()) {
            Check.equal(member, due.contains(member), true);
        }
        Check.equal("members", visibleMembers().size(), FACE.length);
    }

    static void noPrivateMethodBearsTheNameOfAPublicOne() {
        Set<String> names = new TreeSet<>();
        for (Method method : JointVenture.class.getDeclaredMethods()) {
            if (!isPrivate(method)) {
                names.add(method.getName());
            }
        }
        for (Method method : JointVenture.class.getDeclaredMethods()) {
            Check.equal("a private " + method.getName(), isPrivate(method) && names.contains(method.getName()), false);
        }
    }

    /** Read from the class as it is now: a test keeps the value of the day when it was compiled. */
    static void noneIsMinus1() throws ReflectiveOperationException {
        Check.equal("NONE", JointVenture.class.getDeclaredField("NONE").getInt(null), -1);
    }

    /** All that is not private, written as the document does. */
    private static Set<String> visibleMembers() {
        Set<String> members = new TreeSet<>();
        for (Field field : JointVenture.class.getDeclaredFields()) {
            if (!isPrivate(field)) {
                members.add(wordsOf(field) + field.getType().getSimpleName() + " " + field.getName());
            }
        }
        for (Constructor<?> constructor : JointVenture.class.getDeclaredConstructors()) {
            if (!isPrivate(constructor)) {
                members.add(wordsOf(constructor) + constructor.getName() + restOf(constructor));
            }
        }
        for (Method method : JointVenture.class.getDeclaredMethods()) {
            if (!isPrivate(method)) {
                members.add(wordsOf(method) + method.getReturnType().getSimpleName() + " " + method.getName()
                        + restOf(method));
            }
        }
        return members;
    }

    private static boolean isPrivate(Member member) {
        return Modifier.isPrivate(member.getModifiers());
    }

    private static String wordsOf(Member member) {
        String words = Modifier.toString(member.getModifiers());
        return words.isEmpty() ? "" : words + " ";
    }

    private static String restOf(Executable called) {
        StringBuilder text = new StringBuilder("(");
        for (Parameter parameter : called.getParameters()) {
            text.append(text.length() > 1 ? ", " : "");
            text.append(parameter.getType().getSimpleName()).append(' ').append(parameter.getName());
        }
        text.append(')');
        String before = " throws ";
        for (Class<?> thrown : called.getExceptionTypes()) {
            text.append(before).append(thrown.getSimpleName());
            before = ", ";
        }
        return text.toString();
    }
}
