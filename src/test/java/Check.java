/** Counts the answers of one test class that are not the ones that are due. */
final class Check {
    static final Class<IndexOutOfBoundsException> INDEX = IndexOutOfBoundsException.class;
    static final Class<IllegalArgumentException> ARGUMENT = IllegalArgumentException.class;
    static final Class<IllegalStateException> STATE = IllegalStateException.class;

    private static int answers = 0;
    private static int wrong = 0;

    private Check() {
    }

    static void equal(String what, long got, long due) {
        answers++;
        if (got != due) {
            fail(what + " answered " + got + ", due is " + due);
        }
    }

    static void equal(String what, boolean got, boolean due) {
        equal(what, got ? 1L : 0L, due ? 1L : 0L);
    }

    static void equal(String what, String got, String due) {
        answers++;
        if (!got.equals(due)) {
            fail(what + " answered " + got + ", due is " + due);
        }
    }

    /** The call has to throw exactly this exception. */
    static void refused(String what, Class<? extends RuntimeException> due, Runnable call) {
        equal(what, thrownBy(call), due.getName());
    }

    /** The call has to throw exactly this exception, and to change nothing of the venture. */
    static void refused(String what, JointVenture venture, Class<? extends RuntimeException> due, Runnable call) {
        String before = stateOf(venture);
        refused(what, due, call);
        equal(what + " changed nothing", stateOf(venture), before);
    }

    private static String thrownBy(Runnable call) {
        try {
            call.run();
            return "nothing";
        } catch (RuntimeException thrown) {
            return thrown.getClass().getName();
        }
    }

    /** All that a venture tells without being changed. */
    static String stateOf(JointVenture venture) {
        StringBuilder text = new StringBuilder();
        text.append("vouchers");
        for (int voucher = 0; voucher < venture.vouchers(); voucher++) {
            text.append(' ').append(venture.wellOf(voucher)).append(':').append(venture.amountOf(voucher));
        }
        for (int well = 0; hasWell(venture, well); well++) {
            text.append("; well ").append(well);
            for (int partner = 0; partner < 5; partner++) {
                text.append(' ').append(venture.isIn(well, partner)).append(',').append(venture.toEarn(well, partner))
                        .append(',').append(venture.backAt(well, partner))
                        .append(',').append(venture.charged(well, partner))
                        .append(',').append(venture.credited(well, partner))
                        .append(',').append(venture.weight(well, partner));
            }
        }
        for (int number = 0; hasCall(venture, number); number++) {
            text.append("; call ").append(number);
            for (int partner = 0; partner < 5; partner++) {
                text.append(' ').append(venture.asked(number, partner));
            }
        }
        for (int partner = 0; partner < 5; partner++) {
            text.append("; partner ").append(partner).append(' ').append(venture.paid(partner))
                    .append(' ').append(venture.owes(partner)).append(' ').append(venture.balance(partner));
        }
        return text.toString();
    }

    private static boolean hasWell(JointVenture venture, int well) {
        try {
            venture.isIn(well, 0);
            return true;
        } catch (IndexOutOfBoundsException none) {
            return false;
        }
    }

    private static boolean hasCall(JointVenture venture, int number) {
        try {
            venture.asked(number, 0);
            return true;
        } catch (IndexOutOfBoundsException none) {
            return false;
        }
    }

    private static void fail(String text) {
        wrong++;
        if (wrong <= 20) {
            System.out.println(text);
        }
    }

    /** Ends the test class, with exit code 1 if an answer was not the one that was due. */
    static void end() {
        if (answers == 0) {
            fail("nothing was checked");
        }
        System.out.println(answers + " answers looked at, " + wrong + " not as due");
        if (wrong > 0) {
            System.exit(1);
        }
    }
}
