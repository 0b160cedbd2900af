import java.util.Arrays;

/** An account of a joint venture that drills wells; ../shared/DOC.md says what each call does. */
public final class JointVenture {
    public static final int NONE = -1;

    private static final int PARTNERS = 5;
    private static final int MOST_WELLS = 6;
    private static final int MOST_VOUCHERS = 60;
    private static final int MOST_CALLS = 20;
    private static final int ALL_SHARES = 10000;
    private static final int MOST_AMOUNT = 10000000;
    private static final int LEAST_PENALTY = 100;
    private static final int MOST_PENALTY = 1000;
    private static final int FIRST_PENALTY = 300;
    private static final int MOST_OVERHEAD = 100000;
    private static final int MOST_MONTHS = 24;

    private final int[] shares = new int[PARTNERS];
    private int newPenalty = FIRST_PENALTY;
    private int monthlyOverhead = 0;

    // All rows are made here once, so that no call has to make one.
    private final Well[] wells = new Well[MOST_WELLS];
    private int wellCount = 0;
    private final int[] voucherWells = new int[MOST_VOUCHERS];
    private final int[] voucherAmounts = new int[MOST_VOUCHERS];
    private int voucherCount = 0;
    private final CashCall[] cashCalls = new CashCall[MOST_CALLS];
    private int cashCallCount = 0;
    private final int[] owed = new int[PARTNERS];

    private final Division division = new Division();
    private final int[] ownParts = new int[PARTNERS];
    private final int[] weights = new int[PARTNERS];
    private final int[] portions = new int[PARTNERS];

    public JointVenture() {
        shares[0] = ALL_SHARES;
        for (int well = 0; well < MOST_WELLS; well++) {
            wells[well] = new Well();
        }
        for (int number = 0; number < MOST_CALLS; number++) {
            cashCalls[number] = new CashCall();
        }
    }

    // ---- partners and wells

    public void setShares(int first, int second, int third, int fourth, int fifth)
            throws IllegalArgumentException, IllegalStateException {
        requireRange(first, 0, ALL_SHARES);
        requireRange(second, 0, ALL_SHARES);
        requireRange(third, 0, ALL_SHARES);
        requireRange(fourth, 0, ALL_SHARES);
        requireRange(fifth, 0, ALL_SHARES);
        if (first + second + third + fourth + fifth != ALL_SHARES) {
            throw new IllegalArgumentException("the shares are not 10000 together");
        }
        if (wellCount > 0) {
            throw new IllegalStateException("there is a well");
        }
        shares[0] = first;
        shares[1] = second;
        shares[2] = third;
        shares[3] = fourth;
        shares[4] = fifth;
    }

    public int setPenalty(int penalty) throws IllegalArgumentException {
        requireRange(penalty, LEAST_PENALTY, MOST_PENALTY);
        int before = newPenalty;
        newPenalty = penalty;
        return before;
    }

    public int setOverhead(int overhead) throws IllegalArgumentException {
        requireRange(overhead, 0, MOST_OVERHEAD);
        int before = monthlyOverhead;
        monthlyOverhead = overhead;
        return before;
    }

    public int addWell() throws IllegalStateException {
        if (wellCount >= MOST_WELLS) {
            throw new IllegalStateException("there are 6 wells");
        }
        wells[wellCount].penalty = newPenalty;
        wellCount++;
        return wellCount - 1;
    }

    public boolean elect(int well, int partner, boolean isIn)
            throws IndexOutOfBoundsException, IllegalStateException {
        requireWell(well);
        requirePartner(partner);
        Well elected = wells[well];
        if (elected.hadVoucher) {
            throw new IllegalStateException("the well has or had a voucher");
        }
        if (shares[partner] == 0) {
            throw new IllegalStateException("the partner has no share");
        }
        if (!isIn && !isAnotherIn(elected, partner)) {
            throw new IllegalStateException("nobody would be in");
        }
        boolean before = !elected.electedOut[partner];
        elected.electedOut[partner] = !isIn;
        elected.out[partner] = !isIn;
        return before;
    }

    // ---- vouchers

    public int cost(int well, int amount)
            throws IndexOutOfBoundsException, IllegalArgumentException, IllegalStateException {
        requireWell(well);
        requireRange(amount, 1, MOST_AMOUNT);
        requireRoomForVoucher();
        return addVoucher(well, amount);
    }

    public int overhead(int well, int months)
            throws IndexOutOfBoundsException, IllegalArgumentException, IllegalStateException {
        requireWell(well);
        requireRange(months, 1, MOST_MONTHS);
        requireRoomForVoucher();
        if (monthlyOverhead == 0) {
            throw new IllegalStateException("the overhead is 0");
        }
        return addVoucher(well, monthlyOverhead * months);
    }

    public int income(int well, int amount)
            throws IndexOutOfBoundsException, IllegalArgumentException, IllegalStateException {
        requireWell(well);
        requireRange(amount, 1, MOST_AMOUNT);
        requireRoomForVoucher();
        return addVoucher(well, -amount);
    }

    public int move(int voucher, int well) throws IndexOutOfBoundsException, IllegalStateException {
        requireVoucher(voucher);
        requireWell(well);
        if (voucherAmounts[voucher] < 0) {
            throw new IllegalStateException("the voucher is an income");
        }
        int before = voucherWells[voucher];
        voucherWells[voucher] = well;
        wells[well].hadVoucher = true;
        accountAnew(before);
        accountAnew(well);
        return before;
    }

    public int vouchers() {
        return voucherCount;
    }

    public int wellOf(int voucher) throws IndexOutOfBoundsException {
        requireVoucher(voucher);
        return voucherWells[voucher];
    }

    public int amountOf(int voucher) throws IndexOutOfBoundsException {
        requireVoucher(voucher);
        return voucherAmounts[voucher];
    }

    // ---- accounts

    public boolean isIn(int well, int partner) throws IndexOutOfBoundsException {
        requireWell(well);
        requirePartner(partner);
        return shareIfIn(wells[well], partner) > 0;
    }

    public long toEarn(int well, int partner) throws IndexOutOfBoundsException {
        requireWell(well);
        requirePartner(partner);
        return wells[well].toEarn[partner];
    }

    public int backAt(int well, int partner) throws IndexOutOfBoundsException {
        requireWell(well);
        requirePartner(partner);
        return wells[well].backAt[partner];
    }

    public int charged(int well, int partner) throws IndexOutOfBoundsException {
        requireWell(well);
        requirePartner(partner);
        return wells[well].charged[partner];
    }

    public int credited(int well, int partner) throws IndexOutOfBoundsException {
        requireWell(well);
        requirePartner(partner);
        return wells[well].credited[partner];
    }

    public int weight(int well, int partner) throws IndexOutOfBoundsException {
        requireWell(well);
        requirePartner(partner);
        divideCost(wells[well], ALL_SHARES);
        return portions[partner];
    }

    // ---- cash

    public int call(int well, int amount)
            throws IndexOutOfBoundsException, IllegalArgumentException, IllegalStateException {
        requireWell(well);
        requireRange(amount, 1, MOST_AMOUNT);
        if (cashCallCount >= MOST_CALLS) {
            throw new IllegalStateException("there are 20 calls");
        }
        divideCost(wells[well], ALL_SHARES);
        division.divide(amount, portions, cashCalls[cashCallCount].asked);
        cashCallCount++;
        return cashCallCount - 1;
    }

    public int pay(int call, int partner) throws IndexOutOfBoundsException, IllegalStateException {
        requireCashCall(call);
        requirePartner(partner);
        CashCall payable = cashCalls[call];
        int unpaid = payable.asked[partner] - payable.paid[partner];
        if (unpaid == 0) {
            throw new IllegalStateException("nothing is asked that is not paid");
        }
        payable.paid[partner] = payable.asked[partner];
        return unpaid;
    }

    public int shareOut(int call) throws IndexOutOfBoundsException, IllegalStateException {
        requireCashCall(call);
        CashCall shared = cashCalls[call];
        if (!shared.hasPayer()) {
            throw new IllegalStateException("nobody has paid anything");
        }
        int anew = shared.askedOfNonPayers();
        if (anew == 0) {
            throw new IllegalStateException("nothing is asked of those who have paid nothing");
        }
        moveToPayers(shared, anew);
        return anew;
    }

    public int asked(int call, int partner) throws IndexOutOfBoundsException {
        requireCashCall(call);
        requirePartner(partner);
        return cashCalls[call].asked[partner];
    }

    public int paid(int partner) throws IndexOutOfBoundsException {
        requirePartner(partner);
        return paidOfAllCalls(partner);
    }

    public int owes(int partner) throws IndexOutOfBoundsException {
        requirePartner(partner);
        return owed[partner];
    }

    public long balance(int partner) throws IndexOutOfBoundsException {
        requirePartner(partner);
        long sum = (long) paidOfAllCalls(partner) - owed[partner];
        for (int well = 0; well < wellCount; well++) {
            sum += (long) wells[well].credited[partner] - wells[well].charged[partner];
        }
        return sum;
    }

    // ---- what a call refuses

    private void requireRange(int value, int least, int most) {
        if (value < least || value > most) {
            throw new IllegalArgumentException("an argument is out of its range");
        }
    }

    private void requirePartner(int partner) {
        if (partner < 0 || partner >= PARTNERS) {
            throw new IndexOutOfBoundsException("there is no such partner");
        }
    }

    private void requireWell(int well) {
        if (well < 0 || well >= wellCount) {
            throw new IndexOutOfBoundsException("there is no such well");
        }
    }

    private void requireVoucher(int voucher) {
        if (voucher < 0 || voucher >= voucherCount) {
            throw new IndexOutOfBoundsException("there is no such voucher");
        }
    }

    private void requireCashCall(int number) {
        if (number < 0 || number >= cashCallCount) {
            throw new IndexOutOfBoundsException("there is no such call");
        }
    }

    private void requireRoomForVoucher() {
        if (voucherCount >= MOST_VOUCHERS) {
            throw new IllegalStateException("there are 60 vouchers");
        }
    }

    // ---- entering vouchers

    private int addVoucher(int well, int signedAmount) {
        int voucher = voucherCount;
        voucherWells[voucher] = well;
        voucherAmounts[voucher] = signedAmount;
        voucherCount++;
        wells[well].hadVoucher = true;
        account(voucher);
        return voucher;
    }

    /** A moved cost counts from the beginning, so all vouchers of the well are taken again. */
    private void accountAnew(int well) {
        wells[well].clearAccounts();
        for (int voucher = 0; voucher < voucherCount; voucher++) {
            if (voucherWells[voucher] == well) {
                account(voucher);
            }
        }
    }

    private void account(int voucher) {
        Well well = wells[voucherWells[voucher]];
        int amount = voucherAmounts[voucher];
        if (amount > 0) {
            accountCost(well, amount);
        } else {
            accountIncome(well, -amount);
            well.takeBack(voucher);
        }
    }

    private void accountCost(Well well, int amount) {
        divideCost(well, amount);
        for (int partner = 0; partner < PARTNERS; partner++) {
            well.charged[partner] += portions[partner];
            if (well.out[partner]) {
                well.toEarn[partner] += penaltyOn(ownParts[partner], well.penalty);
            }
        }
    }

    private long penaltyOn(int ownPart, int penalty) {
        return ((long) ownPart * penalty + 99) / 100;
    }

    /** Leaves the own parts of a cost in ownParts and what each partner is charged in portions. */
    private void divideCost(Well well, int amount) {
        division.divide(amount, shares, ownParts);
        weighThoseIn(well);
        division.divide(ownPartsOfThoseOut(well), weights, portions);
        for (int partner = 0; partner < PARTNERS; partner++) {
            if (!well.out[partner]) {
                portions[partner] += ownParts[partner];
            }
        }
    }

    private void accountIncome(Well well, int amount) {
        division.divide(amount, shares, ownParts);
        weighThoseIn(well);
        for (int partner = 0; partner < PARTNERS; partner++) {
            int taken = well.takenOf(partner, ownParts[partner]);
            well.toEarn[partner] -= taken;
            well.credited[partner] += ownParts[partner] - taken;
            creditTaken(well, taken);
        }
    }

    private void creditTaken(Well well, int taken) {
        if (taken == 0) {
            return;
        }
        division.divide(taken, weights, portions);
        for (int partner = 0; partner < PARTNERS; partner++) {
            well.credited[partner] += portions[partner];
        }
    }

    private int ownPartsOfThoseOut(Well well) {
        int sum = 0;
        for (int partner = 0; partner < PARTNERS; partner++) {
            if (well.out[partner]) {
                sum += ownParts[partner];
            }
        }
        return sum;
    }

    private void weighThoseIn(Well well) {
        for (int partner = 0; partner < PARTNERS; partner++) {
            weights[partner] = shareIfIn(well, partner);
        }
    }

    private int shareIfIn(Well well, int partner) {
        return well.out[partner] ? 0 : shares[partner];
    }

    private boolean isAnotherIn(Well well, int partner) {
        for (int other = 0; other < PARTNERS; other++) {
            if (other != partner && shareIfIn(well, other) > 0) {
                return true;
            }
        }
        return false;
    }

    // ---- cash that was called

    private void moveToPayers(CashCall shared, int anew) {
        for (int partner = 0; partner < PARTNERS; partner++) {
            weights[partner] = shared.paid[partner] > 0 ? shared.asked[partner] : 0;
        }
        division.divide(anew, weights, portions);
        for (int partner = 0; partner < PARTNERS; partner++) {
            if (shared.paid[partner] > 0) {
                shared.asked[partner] += portions[partner];
            } else {
                owed[partner] += shared.asked[partner];
                shared.asked[partner] = 0;
            }
        }
    }

    private int paidOfAllCalls(int partner) {
        int sum = 0;
        for (int number = 0; number < cashCallCount; number++) {
            sum += cashCalls[number].paid[partner];
        }
        return sum;
    }

    /** Who is in a well, and its accounts behind all vouchers. */
    private static final class Well {
        int penalty = FIRST_PENALTY;
        boolean hadVoucher = false;
        // Out is kept, not in, so that a partner without a share is never out.
        final boolean[] electedOut = new boolean[PARTNERS];
        final boolean[] out = new boolean[PARTNERS];
        final long[] toEarn = new long[PARTNERS];
        final int[] backAt = new int[PARTNERS];
        final int[] charged = new int[PARTNERS];
        final int[] credited = new int[PARTNERS];

        Well() {
            Arrays.fill(backAt, NONE);
        }

        void clearAccounts() {
            Arrays.fill(toEarn, 0L);
            Arrays.fill(backAt, NONE);
            Arrays.fill(charged, 0);
            Arrays.fill(credited, 0);
            for (int partner = 0; partner < PARTNERS; partner++) {
                out[partner] = electedOut[partner];
            }
        }

        int takenOf(int partner, int ownPart) {
            return out[partner] ? (int) Math.min(ownPart, toEarn[partner]) : 0;
        }

        void takeBack(int voucher) {
            for (int partner = 0; partner < PARTNERS; partner++) {
                if (out[partner] && toEarn[partner] == 0) {
                    out[partner] = false;
                    backAt[partner] = voucher;
                }
            }
        }
    }

    /** What is asked for and paid of one call for cash. */
    private static final class CashCall {
        final int[] asked = new int[PARTNERS];
        final int[] paid = new int[PARTNERS];

        boolean hasPayer() {
            for (int partner = 0; partner < PARTNERS; partner++) {
                if (paid[partner] > 0) {
                    return true;
                }
            }
            return false;
        }

        int askedOfNonPayers() {
            int sum = 0;
            for (int partner = 0; partner < PARTNERS; partner++) {
                if (paid[partner] == 0) {
                    sum += asked[partner];
                }
            }
            return sum;
        }
    }

    /** Divides amounts by weights; its row of remainders is used again by each division. */
    private static final class Division {
        private static final long GIVEN = -1;
        private final long[] remainders = new long[PARTNERS];

        void divide(int amount, int[] weights, int[] parts) {
            long allWeights = 0;
            for (int partner = 0; partner < PARTNERS; partner++) {
                allWeights += weights[partner];
            }
            if (allWeights <= 0) {
                Arrays.fill(parts, 0);
                return;
            }
            int left = amount;
            for (int partner = 0; partner < PARTNERS; partner++) {
                long product = (long) amount * weights[partner];
                parts[partner] = (int) (product / allWeights);
                remainders[partner] = product % allWeights;
                left -= parts[partner];
            }
            // The remainders are less than all weights each, so fewer cents than partners are left.
            for (int given = 0; given < left && given < PARTNERS; given++) {
                int partner = firstWithGreatestRemainder();
                parts[partner]++;
                remainders[partner] = GIVEN;
            }
        }

        private int firstWithGreatestRemainder() {
            int greatest = 0;
            for (int partner = 1; partner < PARTNERS; partner++) {
                if (remainders[partner] > remainders[greatest]) {
                    greatest = partner;
                }
            }
            return greatest;
        }
    }
}
