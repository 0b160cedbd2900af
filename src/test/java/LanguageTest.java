import java.lang.reflect.Constructor;
import java.lang.reflect.Executable;
import java.lang.reflect.Field;
import java.lang.reflect.Method;
import java.lang.reflect.Modifier;
import java.util.List;
import java.util.Set;

/** The rules of ../shared/LANGUAGE.md, as far as a compiled class tells of them; the others need a reader. */
public final class LanguageTest {
    private static final Class<?>[] CLASSES = JointVenture.class.getNestMembers();
    private static final Set<Class<?>> LIBRARY = Set.of(String.class, StringBuilder.class, Integer.class, List.class,
            java.util.ArrayList.class);
    private static final Set<Class<?>> CONSTANTS = Set.of(int.class, long.class, boolean.class, char.class,
            String.class, int[].class, long[].class, char[].class, byte[].class);
    private static final Set<String> OF_EVERY_OBJECT = Set.of("equals", "hashCode", "toString", "finalize");

    public static void main(String[] args) {
        Check.runAll(LanguageTest.class);
    }

    static void rule1ClassesInsideAreNotPublicAndStatic() {
        for (Class<?> type : CLASSES) {
            int modifiers = type.getModifiers();
            boolean isHidden = !Modifier.isPublic(modifiers) && !Modifier.isProtected(modifiers);
            Check.equal(type.getName(), isHidden && Modifier.isStatic(modifiers), type != JointVenture.class);
        }
    }

    static void rule3TypesAreThoseOfTheRule() {
        for (Class<?> type : CLASSES) {
            for (Field field : type.getDeclaredFields()) {
                isOfTheRule(type, field.getType());
            }
            for (Method method : type.getDeclaredMethods()) {
                isOfTheRule(type, method.getReturnType());
                parametersAreOfTheRule(type, method);
            }
            for (Constructor<?> constructor : type.getDeclaredConstructors()) {
                parametersAreOfTheRule(type, constructor);
            }
        }
    }

    private static void parametersAreOfTheRule(Class<?> where, Executable called) {
        for (Class<?> parameter : called.getParameterTypes()) {
            isOfTheRule(where, parameter);
        }
    }

    private static void isOfTheRule(Class<?> where, Class<?> type) {
        boolean isOfTheRule = type.isArray() ? isElement(type.getComponentType()) : isPlain(type);
        Check.equal(type.getName() + " in " + where.getName(), isOfTheRule, true);
    }

    private static boolean isElement(Class<?> type) {
        return type.isArray() ? type.getComponentType().isPrimitive() : isPlain(type);
    }

    private static boolean isPlain(Class<?> type) {
        return type.isPrimitive() || LIBRARY.contains(type) || type.getNestHost() == JointVenture.class;
    }

    static void rule5StaticFieldsAreFinalConstants() {
        for (Class<?> type : CLASSES) {
            for (Field field : type.getDeclaredFields()) {
                if (Modifier.isStatic(field.getModifiers())) {
                    Check.equal(field + " is final", Modifier.isFinal(field.getModifiers()), true);
                    Check.equal(field + " is a constant", CONSTANTS.contains(field.getType()), true);
                }
            }
        }
    }

    static void rule6NothingOfEveryObjectAndNoExceptionIsItsOwn() {
        for (Class<?> type : CLASSES) {
            Check.equal(type.getName() + " is an exception", Throwable.class.isAssignableFrom(type), false);
            for (Method method : type.getDeclaredMethods()) {
                Check.equal(method.toString(), OF_EVERY_OBJECT.contains(method.getName()), false);
                Check.equal(method + " locks", Modifier.isSynchronized(method.getModifiers()), false);
            }
        }
    }

    static void rule11NothingIsTooLarge() {
        Check.equal("twelve classes at most", CLASSES.length <= 12, true);
        for (Class<?> type : CLASSES) {
            int fields = 0;
            for (Field field : type.getDeclaredFields()) {
                fields += Modifier.isStatic(field.getModifiers()) ? 0 : 1;
            }
            Check.equal("twenty fields at most in " + type.getName(), fields <= 20, true);
            for (Method method : type.getDeclaredMethods()) {
                Check.equal("seven parameters at most of " + method, method.getParameterCount() <= 7, true);
            }
        }
    }
}
