import java.lang.reflect.InvocationTargetException;
import java.lang.reflect.Method;
import java.lang.reflect.Modifier;
import java.util.Arrays;
import java.util.Comparator;

/** Counts the answers of one test class that are not the ones that are due. */
final class Check {
    static final Class<IndexOutOfBoundsException> INDEX = IndexOutOfBoundsException.class;
    static final Class<IllegalArgumentException> ARGUMENT = IllegalArgumentException.class;
    static final Class<IllegalStateException> STATE = IllegalStateException.class;

    private static int answers = 0;
    private static int wrong = 0;
    private static String test = "";
    private static int wrongOfTest = 0;

    private Check() {
    }

    static void equal(String what, long got, long due) {
        answers++;
        if (got != due) {
            fail(what + " answered " + got + ", due is " + due);
        }
    }

    static void equal(String what, boolean got, boolean due) {
        equal(what, got ? 1L : 0L, due ? 1L : 0L);
    }

    static void equal(String what, String got, String due) {
        answers++;
        if (!got.equals(due)) {
            fail(what + " answered " + got + ", due is " + due);
        }
    }

    /** The call has to throw exactly this exception. */
    static void refused(String what, Class<? extends RuntimeException> due, Runnable call) {
        equal(what, thrownBy(call), due.getName());
    }

    /** The name of what the call throws, or nothing. */
    static String thrownBy(Runnable call) {
        try {
            call.run();
            return "nothing";
        } catch (RuntimeException thrown) {
            return thrown.getClass().getName();
        }
    }

    /** Runs each test of a class, that is each method without parameters that is not private, and ends. */
    static void runAll(Class<?> tests) {
        Method[] methods = tests.getDeclaredMethods();
        // The machine names methods in no order of its own; a run has to be the same each time.
        Arrays.sort(methods, Comparator.comparing(Method::getName));
        int run = 0;
        for (Method method : methods) {
            if (method.getParameterCount() == 0 && !Modifier.isPrivate(method.getModifiers())) {
                runOne(method);
                run++;
            }
        }
        System.out.println(run + " tests");
        end();
    }

    private static void runOne(Method method) {
        test = method.getName() + ": ";
        wrongOfTest = 0;
        int before = answers;
        try {
            method.invoke(null);
        } catch (InvocationTargetException thrown) {
            fail("threw " + thrown.getCause());
        } catch (IllegalAccessException closed) {
            fail("can't be run");
        }
        if (answers == before) {
            fail("looked at no answer");
        }
        test = "";
    }

    private static void fail(String text) {
        wrong++;
        wrongOfTest++;
        if (wrongOfTest <= 20) {
            System.out.println(test + text);
        }
    }

    /** Ends the test class, with exit code 1 if an answer was not the one that was due. */
    static void end() {
        if (answers == 0) {
            fail("nothing was checked");
        }
        System.out.println(answers + " answers looked at, " + wrong + " not as due");
        if (wrong > 0) {
            System.exit(1);
        }
    }
}
