import java.math.BigInteger;
import java.util.ArrayList;
import java.util.List;

/**
 * A second, slower reading of the document: it keeps only what was entered, and works out every answer
 * from the beginning. ModelTest compares the class with it.
 */
final class Model {
    static final int PARTNERS = 5;

    /** What came of a well, when its vouchers have been taken one after the other. */
    private static final class Outcome {
        final boolean[] in = new boolean[PARTNERS];
        final long[] toEarn = new long[PARTNERS];
        final int[] backAt = {-1, -1, -1, -1, -1};
        final long[] charged = new long[PARTNERS];
        final long[] credited = new long[PARTNERS];
    }

    private static final class Voucher {
        int well;
        final int amount;
        final boolean isIncome;

        Voucher(int well, int amount, boolean isIncome) {
            this.well = well;
            this.amount = amount;
            this.isIncome = isIncome;
        }
    }

    private long[] shares = {10000, 0, 0, 0, 0};
    private int penalty = 300;
    private int overhead = 0;
    private final List<Integer> penalties = new ArrayList<>();
    private final List<boolean[]> elections = new ArrayList<>();
    private final List<Boolean> everUsed = new ArrayList<>();
    private final List<Voucher> vouchers = new ArrayList<>();
    private final List<long[]> asked = new ArrayList<>();
    private final List<long[]> paid = new ArrayList<>();
    private final long[] owed = new long[PARTNERS];

    /** The answer of one call; the name of what it throws, if it throws. */
    String answer(String name, int[] a) {
        switch (name) {
            case "setShares": return setShares(a);
            case "setPenalty": return setPenalty(a[0]);
            case "setOverhead": return setOverhead(a[0]);
            case "addWell": return addWell();
            case "elect": return elect(a[0], a[1], a[2] == 1);
            case "cost": return voucher(a[0], a[1], 10000000, 1, false, false);
            case "income": return voucher(a[0], a[1], 10000000, 1, true, false);
            case "overhead": return voucher(a[0], a[1], 24, overhead, false, overhead == 0);
            case "move": return move(a[0], a[1]);
            case "vouchers": return "" + vouchers.size();
            case "wellOf": return isNo(a[0], vouchers.size()) ? "index" : "" + vouchers.get(a[0]).well;
            case "amountOf": return amountOf(a[0]);
            case "call": return call(a[0], a[1]);
            case "pay": return pay(a[0], a[1]);
            case "shareOut": return shareOut(a[0]);
            case "asked": return isNo(a[0], asked.size()) || isNo(a[1], PARTNERS) ? "index" : "" + asked.get(a[0])[a[1]];
            case "paid": return isNo(a[0], PARTNERS) ? "index" : "" + paidOf(a[0]);
            case "owes": return isNo(a[0], PARTNERS) ? "index" : "" + owed[a[0]];
            case "balance": return isNo(a[0], PARTNERS) ? "index" : "" + balanceOf(a[0]);
            default: return account(name, a[0], a[1]);
        }
    }

    private String setShares(int[] a) {
        long sum = 0;
        for (int share : a) {
            if (share < 0 || share > 10000) {
                return "argument";
            }
            sum += share;
        }
        if (sum != 10000) {
            return "argument";
        }
        if (!penalties.isEmpty()) {
            return "state";
        }
        shares = new long[] {a[0], a[1], a[2], a[3], a[4]};
        return "void";
    }

    private String setPenalty(int value) {
        if (value < 100 || value > 1000) {
            return "argument";
        }
        String before = "" + penalty;
        penalty = value;
        return before;
    }

    private String setOverhead(int value) {
        if (value < 0 || value > 100000) {
            return "argument";
        }
        String before = "" + overhead;
        overhead = value;
        return before;
    }

    private String addWell() {
        if (penalties.size() == 6) {
            return "state";
        }
        penalties.add(penalty);
        boolean[] in = new boolean[PARTNERS];
        for (int partner = 0; partner < PARTNERS; partner++) {
            in[partner] = shares[partner] > 0;
        }
        elections.add(in);
        everUsed.add(false);
        return "" + (penalties.size() - 1);
    }

    private String elect(int well, int partner, boolean isIn) {
        if (isNo(well, penalties.size()) || isNo(partner, PARTNERS)) {
            return "index";
        }
        if (everUsed.get(well) || shares[partner] == 0) {
            return "state";
        }
        boolean[] after = elections.get(well).clone();
        after[partner] = isIn;
        boolean anyIn = false;
        for (boolean one : after) {
            anyIn |= one;
        }
        if (!anyIn) {
            return "state";
        }
        String before = "" + elections.get(well)[partner];
        elections.set(well, after);
        return before;
    }

    private String voucher(int well, int number, int most, int times, boolean isIncome, boolean refused) {
        if (isNo(well, penalties.size())) {
            return "index";
        }
        if (number < 1 || number > most) {
            return "argument";
        }
        if (vouchers.size() == 60 || refused) {
            return "state";
        }
        vouchers.add(new Voucher(well, number * times, isIncome));
        everUsed.set(well, true);
        return "" + (vouchers.size() - 1);
    }

    private String move(int voucher, int well) {
        if (isNo(voucher, vouchers.size()) || isNo(well, penalties.size())) {
            return "index";
        }
        Voucher moved = vouchers.get(voucher);
        if (moved.isIncome) {
            return "state";
        }
        String before = "" + moved.well;
        moved.well = well;
        everUsed.set(well, true);
        return before;
    }

    private String amountOf(int voucher) {
        if (isNo(voucher, vouchers.size())) {
            return "index";
        }
        Voucher asked = vouchers.get(voucher);
        return "" + (asked.isIncome ? -asked.amount : asked.amount);
    }

    private String account(String name, int well, int partner) {
        if (isNo(well, penalties.size()) || isNo(partner, PARTNERS)) {
            return "index";
        }
        Outcome outcome = outcomeOf(well);
        switch (name) {
            case "isIn": return "" + outcome.in[partner];
            case "toEarn": return "" + outcome.toEarn[partner];
            case "backAt": return "" + outcome.backAt[partner];
            case "charged": return "" + outcome.charged[partner];
            case "credited": return "" + outcome.credited[partner];
            case "weight": return "" + weightsOf(well)[partner];
            default: throw new IllegalArgumentException(name);
        }
    }

    private String call(int well, int amount) {
        if (isNo(well, penalties.size())) {
            return "index";
        }
        if (amount < 1 || amount > 10000000) {
            return "argument";
        }
        if (asked.size() == 20) {
            return "state";
        }
        asked.add(divided(amount, weightsOf(well)));
        paid.add(new long[PARTNERS]);
        return "" + (asked.size() - 1);
    }

    private String pay(int call, int partner) {
        if (isNo(call, asked.size()) || isNo(partner, PARTNERS)) {
            return "index";
        }
        long open = asked.get(call)[partner] - paid.get(call)[partner];
        if (open == 0) {
            return "state";
        }
        paid.get(call)[partner] += open;
        return "" + open;
    }

    private String shareOut(int call) {
        if (isNo(call, asked.size())) {
            return "index";
        }
        long[] before = asked.get(call);
        long[] payers = new long[PARTNERS];
        long[] debts = new long[PARTNERS];
        for (int partner = 0; partner < PARTNERS; partner++) {
            if (paid.get(call)[partner] > 0) {
                payers[partner] = before[partner];
            } else {
                debts[partner] = before[partner];
            }
        }
        if (sum(payers) == 0 || sum(debts) == 0) {
            return "state";
        }
        long[] more = divided(sum(debts), payers);
        for (int partner = 0; partner < PARTNERS; partner++) {
            before[partner] += more[partner] - debts[partner];
            owed[partner] += debts[partner];
        }
        return "" + sum(debts);
    }

    private long paidOf(int partner) {
        long sum = 0;
        for (long[] row : paid) {
            sum += row[partner];
        }
        return sum;
    }

    private long balanceOf(int partner) {
        long sum = paidOf(partner) - owed[partner];
        for (int well = 0; well < penalties.size(); well++) {
            Outcome outcome = outcomeOf(well);
            sum += outcome.credited[partner] - outcome.charged[partner];
        }
        return sum;
    }

    private Outcome outcomeOf(int well) {
        Outcome outcome = new Outcome();
        System.arraycopy(elections.get(well), 0, outcome.in, 0, PARTNERS);
        for (int number = 0; number < vouchers.size(); number++) {
            Voucher voucher = vouchers.get(number);
            if (voucher.well == well && voucher.isIncome) {
                takeIncome(outcome, voucher.amount, number);
            } else if (voucher.well == well) {
                takeCost(outcome, voucher.amount, penalties.get(well));
            }
        }
        return outcome;
    }

    private void takeCost(Outcome outcome, long amount, long penaltyOfWell) {
        long[] own = divided(amount, shares);
        long outTogether = 0;
        for (int partner = 0; partner < PARTNERS; partner++) {
            if (!outcome.in[partner]) {
                outTogether += own[partner];
                long product = own[partner] * penaltyOfWell;
                outcome.toEarn[partner] += product / 100 + (product % 100 > 0 ? 1 : 0);
            }
        }
        long[] carried = divided(outTogether, sharesOfThoseIn(outcome.in));
        for (int partner = 0; partner < PARTNERS; partner++) {
            if (outcome.in[partner]) {
                outcome.charged[partner] += own[partner] + carried[partner];
            }
        }
    }

    private void takeIncome(Outcome outcome, long amount, int number) {
        boolean[] in = outcome.in.clone();
        long[] own = divided(amount, shares);
        for (int partner = 0; partner < PARTNERS; partner++) {
            if (in[partner]) {
                outcome.credited[partner] += own[partner];
            } else if (shares[partner] > 0) {
                long taken = Math.min(own[partner], outcome.toEarn[partner]);
                outcome.toEarn[partner] -= taken;
                outcome.credited[partner] += own[partner] - taken;
                long[] given = divided(taken, sharesOfThoseIn(in));
                for (int other = 0; other < PARTNERS; other++) {
                    outcome.credited[other] += given[other];
                }
                if (outcome.toEarn[partner] == 0) {
                    outcome.in[partner] = true;
                    outcome.backAt[partner] = number;
                }
            }
        }
    }

    private long[] weightsOf(int well) {
        Outcome outcome = outcomeOf(well);
        long[] before = outcome.charged.clone();
        takeCost(outcome, 10000, 100);
        long[] weights = new long[PARTNERS];
        for (int partner = 0; partner < PARTNERS; partner++) {
            weights[partner] = outcome.charged[partner] - before[partner];
        }
        return weights;
    }

    private long[] sharesOfThoseIn(boolean[] in) {
        long[] row = new long[PARTNERS];
        for (int partner = 0; partner < PARTNERS; partner++) {
            row[partner] = in[partner] ? shares[partner] : 0;
        }
        return row;
    }

    private static long[] divided(long amount, long[] weights) {
        BigInteger all = BigInteger.valueOf(sum(weights));
        long[] parts = new long[PARTNERS];
        BigInteger[] rests = new BigInteger[PARTNERS];
        for (int partner = 0; partner < PARTNERS; partner++) {
            BigInteger[] both = BigInteger.valueOf(amount).multiply(BigInteger.valueOf(weights[partner]))
                    .divideAndRemainder(all);
            parts[partner] = both[0].longValueExact();
            rests[partner] = both[1];
        }
        long left = amount - sum(parts);
        for (int partner = 0; partner < PARTNERS; partner++) {
            int ahead = 0;
            for (int other = 0; other < PARTNERS; other++) {
                int order = rests[other].compareTo(rests[partner]);
                ahead += order > 0 || order == 0 && other < partner ? 1 : 0;
            }
            parts[partner] += ahead < left ? 1 : 0;
        }
        return parts;
    }

    private static long sum(long[] row) {
        long sum = 0;
        for (long one : row) {
            sum += one;
        }
        return sum;
    }

    private static boolean isNo(int number, int count) {
        return number < 0 || number >= count;
    }
}
