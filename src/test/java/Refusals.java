import java.util.function.Consumer;
import java.util.function.Supplier;

/**
 * Calls that have to be refused, each on a venture of its own, and to leave it as if they had not been made;
 * and the numbers just inside of what is refused, which have to be taken.
 */
final class Refusals {
    private static final Stage[] ALL = Stage.values();
    private static final Stage[] WITH_WELLS = {Stage.LIVED, Stage.FULL};

    private Refusals() {
    }

    /** A call of which one number is left open. */
    interface NumberedCall {
        void on(JointVenture x, int number);
    }

    /** The call throws this on a venture that is made so; a twin without the call tells the same of itself. */
    static void refused(String what, Supplier<JointVenture> setUp, Class<? extends RuntimeException> due,
            Consumer<JointVenture> call) {
        for (int part = 0; part < State.PARTS; part++) {
            JointVenture x = setUp.get();
            Check.refused(what, due, () -> call.accept(x));
            Check.equal(what + " changed nothing", State.part(part, x), State.part(part, setUp.get()));
        }
    }

    static void noSuchWell(NumberedCall call) {
        for (Stage stage : ALL) {
            refusedForEach(stage, Check.INDEX, call, -1, stage.wells, 6, Integer.MIN_VALUE, Integer.MAX_VALUE);
        }
    }

    static void noSuchPartner(NumberedCall call) {
        for (Stage stage : ALL) {
            refusedForEach(stage, Check.INDEX, call, -1, 5, Integer.MIN_VALUE, Integer.MAX_VALUE);
        }
    }

    static void noSuchVoucher(NumberedCall call) {
        for (Stage stage : ALL) {
            refusedForEach(stage, Check.INDEX, call, -1, stage.vouchers, 60, Integer.MIN_VALUE, Integer.MAX_VALUE);
        }
    }

    static void noSuchCall(NumberedCall call) {
        for (Stage stage : ALL) {
            refusedForEach(stage, Check.INDEX, call, -1, stage.calls, 20, Integer.MIN_VALUE, Integer.MAX_VALUE);
        }
    }

    /** The call, which needs no well, is refused for numbers below the least one that it takes. */
    static void tooSmall(int least, NumberedCall call) {
        for (Stage stage : ALL) {
            refusedForEach(stage, Check.ARGUMENT, call, least - 1, -1, Integer.MIN_VALUE);
        }
    }

    static void tooLarge(int most, NumberedCall call) {
        for (Stage stage : ALL) {
            refusedForEach(stage, Check.ARGUMENT, call, most + 1, Integer.MAX_VALUE);
        }
    }

    /** The call of the well 0 is refused for numbers below the least one that it takes. */
    static void tooSmallOfAWell(int least, NumberedCall call) {
        for (Stage stage : WITH_WELLS) {
            refusedForEach(stage, Check.ARGUMENT, call, least - 1, -1, Integer.MIN_VALUE);
        }
    }

    static void tooLargeOfAWell(int most, NumberedCall call) {
        for (Stage stage : WITH_WELLS) {
            refusedForEach(stage, Check.ARGUMENT, call, most + 1, Integer.MAX_VALUE);
        }
    }

    /** The call takes the first and the last well that there is, behind which noSuchWell begins. */
    static void takesEachWell(NumberedCall call) {
        for (Stage stage : WITH_WELLS) {
            taken(stage, call, stage.wells);
        }
    }

    static void takesEachPartner(NumberedCall call) {
        for (Stage stage : WITH_WELLS) {
            taken(stage, call, 5);
        }
    }

    static void takesEachVoucher(NumberedCall call) {
        for (Stage stage : WITH_WELLS) {
            taken(stage, call, stage.vouchers);
        }
    }

    static void takesEachCall(NumberedCall call) {
        for (Stage stage : WITH_WELLS) {
            taken(stage, call, stage.calls);
        }
    }

    private static void taken(Stage stage, NumberedCall call, int count) {
        for (int number = 0; number < count; number++) {
            JointVenture x = stage.make();
            int one = number;
            Check.equal(number + " when " + stage, Check.thrownBy(() -> call.on(x, one)), "nothing");
        }
    }

    private static void refusedForEach(Stage stage, Class<? extends RuntimeException> due, NumberedCall call,
            int... numbers) {
        for (int number : numbers) {
            refused(number + " when " + stage, stage::make, due, x -> call.on(x, number));
        }
    }
}
