import java.util.function.Supplier;

/**
 * All that a venture tells, in parts: a venture that is asked for one part alone answers far fewer than the
 * 512 calls that it is made for. The first parts are questions; the others try what follows, so the venture
 * is of no use behind them. They tell what no question does: penalties, elections, and what is still taken.
 */
final class State {
    static final int QUESTIONS = 3;
    static final int PARTS = 5;

    private final JointVenture venture;
    private final StringBuilder text = new StringBuilder();

    private State(JointVenture venture) {
        this.venture = venture;
    }

    static String part(int part, JointVenture venture) {
        State state = new State(venture);
        switch (part) {
            case 0: state.tellVouchers(); break;
            case 1: state.tellAccounts(); break;
            case 2: state.tellCash(); break;
            case 3: state.tellWhatVouchersDo(); break;
            default: state.tellWhatComesNext();
        }
        return state.text.toString();
    }

    /** What a call answers, or the name of what it throws. */
    static String outcome(Supplier<Object> call) {
        try {
            return String.valueOf(call.get());
        } catch (RuntimeException thrown) {
            return thrown.getClass().getSimpleName();
        }
    }

    private void tell(String what, Supplier<Object> call) {
        text.append(what).append(' ').append(outcome(call)).append("; ");
    }

    private void tellVouchers() {
        tell("vouchers", venture::vouchers);
        for (int number = 0; number < 60; number++) {
            int voucher = number;
            tell("well of " + voucher, () -> venture.wellOf(voucher));
            tell("amount of " + voucher, () -> venture.amountOf(voucher));
        }
    }

    private void tellAccounts() {
        for (int place = 0; place < 30; place++) {
            int well = place / 5;
            int partner = place % 5;
            tell("well " + well + " partner " + partner, () -> venture.isIn(well, partner));
            tell("to earn", () -> venture.toEarn(well, partner));
            tell("back", () -> venture.backAt(well, partner));
            tell("charged", () -> venture.charged(well, partner));
            tell("credited", () -> venture.credited(well, partner));
            tell("weight", () -> venture.weight(well, partner));
        }
    }

    private void tellCash() {
        for (int place = 0; place < 100; place++) {
            int call = place / 5;
            int partner = place % 5;
            tell("asked by " + call + " of " + partner, () -> venture.asked(call, partner));
        }
        for (int number = 0; number < 5; number++) {
            int partner = number;
            tell("paid by " + partner, () -> venture.paid(partner));
            tell("owed", () -> venture.owes(partner));
            tell("balance", () -> venture.balance(partner));
        }
    }

    private void tellWhatVouchersDo() {
        for (int number = 0; number < 6; number++) {
            int well = number;
            tell("cost of " + well, () -> venture.cost(well, 10000));
            tell("move to it", () -> venture.move(0, well));
            tell("income", () -> venture.income(well, 10));
            for (int one = 0; one < 5; one++) {
                int partner = one;
                tell("in is " + partner, () -> venture.isIn(well, partner));
                tell("to earn", () -> venture.toEarn(well, partner));
                tell("charged", () -> venture.charged(well, partner));
                tell("credited", () -> venture.credited(well, partner));
            }
        }
    }

    private void tellWhatComesNext() {
        tell("penalty", () -> venture.setPenalty(100));
        tell("overhead", () -> venture.setOverhead(0));
        tell("next well", venture::addWell);
        for (int place = 0; place < 30; place++) {
            int well = place / 5;
            int partner = place % 5;
            tell("well " + well + " partner " + partner + " was in", () -> venture.elect(well, partner, false));
            tell("then", () -> venture.elect(well, partner, true));
            tell("weight", () -> venture.weight(well, partner));
        }
        for (int number = 0; number < 20; number++) {
            int call = number;
            tell("share out " + call, () -> venture.shareOut(call));
            for (int payer = 0; payer < 5; payer++) {
                int partner = payer;
                tell("pay by " + partner, () -> venture.pay(call, partner));
            }
        }
        tell("next cost", () -> venture.cost(0, 1));
        tell("next call", () -> venture.call(0, 1));
    }
}
