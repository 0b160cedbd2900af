/** The edges of the document's terms: partners, dividing, wells, vouchers, costs and incomes. */
public final class TermsEdgesTest {
    public static void main(String[] args) {
        Check.runAll(TermsEdgesTest.class);
    }

    private static void dueCharged(JointVenture x, int... due) {
        for (int partner = 0; partner < 5; partner++) {
            Check.equal("charged to " + partner, x.charged(0, partner), due[partner]);
        }
    }

    private static void dueCredited(JointVenture x, int... due) {
        for (int partner = 0; partner < 5; partner++) {
            Check.equal("credited to " + partner, x.credited(0, partner), due[partner]);
        }
    }

    /** The partner 1, with half of the shares, is out of the well 0. */
    private static JointVenture withOneOut(int penalty) {
        JointVenture x = new JointVenture();
        x.setShares(5000, 5000, 0, 0, 0);
        x.setPenalty(penalty);
        x.addWell();
        x.addWell();
        x.elect(0, 1, false);
        return x;
    }

    /** The partners 0 to 3 have the same shares; 2 and 3 are out of the well 0. */
    private static JointVenture withTwoOut() {
        JointVenture x = Ventures.withShares(2500, 2500, 2500, 2500, 0);
        x.elect(0, 2, false);
        x.elect(0, 3, false);
        return x;
    }

    // ---- dividing

    static void anAmountWithNothingLeftOverIsDivided() {
        JointVenture x = Ventures.withShares(5000, 3000, 2000, 0, 0);
        x.cost(0, 10);
        dueCharged(x, 5, 3, 2, 0, 0);
    }

    static void eachPartIsRoundedDownAtFirst() {
        JointVenture x = Ventures.withShares(9999, 1, 0, 0, 0);
        x.cost(0, 9999);
        // 9998.0001 and 0.9999: the cent that is left goes to the greater remainder.
        dueCharged(x, 9998, 1, 0, 0, 0);
    }

    static void oneCentIsLeftOver() {
        JointVenture x = Ventures.withShares(2000, 2000, 2000, 2000, 2000);
        x.cost(0, 6);
        dueCharged(x, 2, 1, 1, 1, 1);
    }

    static void fourCentsAreLeftOverAtMost() {
        JointVenture x = Ventures.withShares(2000, 2000, 2000, 2000, 2000);
        x.cost(0, 4);
        dueCharged(x, 1, 1, 1, 1, 0);
        x.income(0, 9);
        dueCredited(x, 2, 2, 2, 2, 1);
    }

    static void theGreatestRemaindersGoFirst() {
        JointVenture x = Ventures.withShares(1000, 2000, 3000, 4000, 0);
        x.cost(0, 7);
        // 0.7, 1.4, 2.1 and 2.8: two cents are left.
        dueCharged(x, 1, 1, 2, 3, 0);
        JointVenture y = Ventures.withShares(0, 4000, 3000, 2000, 1000);
        y.cost(0, 7);
        dueCharged(y, 0, 3, 2, 1, 1);
    }

    static void aRemainderThatIsGreaterBy1GoesFirst() {
        JointVenture x = Ventures.withShares(3333, 3333, 3334, 0, 0);
        x.cost(0, 1);
        dueCharged(x, 0, 0, 1, 0, 0);
        JointVenture y = Ventures.withShares(3333, 3334, 3333, 0, 0);
        y.cost(0, 1);
        dueCharged(y, 0, 1, 0, 0, 0);
    }

    static void ofEqualRemaindersTheLowerNumberGoesFirst() {
        for (int lower = 0; lower < 4; lower++) {
            for (int higher = lower + 1; higher < 5; higher++) {
                int[] shares = new int[5];
                shares[lower] = 5000;
                shares[higher] = 5000;
                JointVenture x = Ventures.withShares(shares[0], shares[1], shares[2], shares[3], shares[4]);
                x.cost(0, 1);
                Check.equal("the lower one", x.charged(0, lower), 1);
                Check.equal("the higher one", x.charged(0, higher), 0);
            }
        }
    }

    static void equalRemaindersBehindAGreaterOneGoByNumber() {
        JointVenture x = Ventures.withShares(2500, 2500, 2500, 0, 2500);
        x.income(0, 1);
        x.income(0, 2);
        x.income(0, 3);
        dueCredited(x, 3, 2, 1, 0, 0);
        JointVenture y = Ventures.withShares(3000, 3000, 4000, 0, 0);
        y.cost(0, 2);
        // 0.6, 0.6 and 0.8: the cents go to 2 and to 0.
        dueCharged(y, 1, 0, 1, 0, 0);
    }

    static void aPartnerWithTheWeight0GetsNothing() {
        JointVenture x = Ventures.withShares(0, 3333, 3333, 3334, 0);
        x.cost(0, 2);
        x.income(0, 2);
        dueCharged(x, 0, 1, 0, 1, 0);
        dueCredited(x, 0, 1, 0, 1, 0);
    }

    static void theLeastAmountGoesToOnePartner() {
        JointVenture x = Ventures.withShares(1, 9999, 0, 0, 0);
        x.cost(0, 1);
        dueCharged(x, 0, 1, 0, 0, 0);
        JointVenture y = Ventures.withShares(0, 0, 0, 0, 10000);
        y.cost(0, 1);
        dueCharged(y, 0, 0, 0, 0, 1);
    }

    static void theGreatestAmountIsDividedExactly() {
        JointVenture x = Ventures.withShares(1, 2, 3, 4, 9990);
        x.cost(0, 10000000);
        x.income(0, 10000000);
        dueCharged(x, 1000, 2000, 3000, 4000, 9990000);
        dueCredited(x, 1000, 2000, 3000, 4000, 9990000);
        JointVenture y = Ventures.withShares(3333, 3333, 3334, 0, 0);
        y.cost(0, 9999999);
        // 3332999.6667 two times, and 3333999.6666.
        dueCharged(y, 3333000, 3333000, 3333999, 0, 0);
    }

    // ---- costs

    static void nobodyCarriesWhenNobodyIsOut() {
        JointVenture x = Ventures.withShares(2500, 2500, 2500, 2500, 0);
        x.cost(0, 6);
        dueCharged(x, 2, 2, 1, 1, 0);
        for (int partner = 0; partner < 5; partner++) {
            Check.equal("to earn", x.toEarn(0, partner), 0);
        }
    }

    static void onePartnerCarriesAllTheOthers() {
        JointVenture x = Ventures.withShares(1, 2499, 2500, 2500, 2500);
        for (int partner = 1; partner < 5; partner++) {
            x.elect(0, partner, false);
        }
        x.cost(0, 10);
        dueCharged(x, 10, 0, 0, 0, 0);
        // The own parts are 0, 2, 3, 3 and 2.
        int[] toEarn = {0, 6, 9, 9, 6};
        for (int partner = 0; partner < 5; partner++) {
            Check.equal("to earn of " + partner, x.toEarn(0, partner), toEarn[partner]);
        }
    }

    static void theOwnPartsOfThoseWhoAreOutAreAddedUpAndThenDivided() {
        JointVenture x = Ventures.withShares(2000, 2000, 2000, 2000, 2000);
        x.elect(0, 3, false);
        x.elect(0, 4, false);
        x.cost(0, 6);
        // The own parts are 2, 1, 1, 1 and 1; of the 2 together 0 and 1 carry one cent each.
        dueCharged(x, 3, 2, 1, 0, 0);
    }

    static void whatIsCarriedGoesByTheSharesOfThoseWhoAreIn() {
        JointVenture x = Ventures.withShares(1000, 2000, 7000, 0, 0);
        x.elect(0, 2, false);
        x.cost(0, 10);
        // Of the 7 of 2 the others carry 2.33 and 4.67.
        dueCharged(x, 3, 7, 0, 0, 0);
    }

    static void ofEqualRemaindersTheLowerNumberCarriesFirst() {
        JointVenture x = Ventures.withShares(0, 2500, 2500, 2500, 2500);
        x.elect(0, 1, false);
        x.cost(0, 4);
        dueCharged(x, 0, 0, 2, 1, 1);
    }

    static void anOwnPartOf0AddsNothingToEarn() {
        JointVenture x = withOneOut(1000);
        x.cost(0, 1);
        Check.equal("to earn", x.toEarn(0, 1), 0);
        dueCharged(x, 1, 0, 0, 0, 0);
        Check.equal("out still", x.isIn(0, 1), false);
    }

    private static void dueToEarn(int ownPart, int penalty, long due) {
        JointVenture x = withOneOut(penalty);
        x.cost(0, 2 * ownPart);
        Check.equal(ownPart + " by " + penalty, x.toEarn(0, 1), due);
    }

    static void aPenaltyOfWholeCentsIsNotRounded() {
        dueToEarn(1, 100, 1);
        dueToEarn(1, 200, 2);
        dueToEarn(1, 1000, 10);
        dueToEarn(100, 101, 101);
        dueToEarn(100, 999, 999);
        dueToEarn(50, 102, 51);
    }

    static void aPenaltyIsRoundedUpByAHundredth() {
        dueToEarn(1, 101, 2);
        dueToEarn(1, 201, 3);
        dueToEarn(101, 101, 103);
        dueToEarn(1, 901, 10);
    }

    static void aPenaltyIsRoundedUpBy99Hundredths() {
        dueToEarn(1, 199, 2);
        dueToEarn(1, 999, 10);
        dueToEarn(99, 101, 100);
    }

    static void theGreatestPenaltyIsExact() {
        dueToEarn(5000000, 1000, 50000000);
        dueToEarn(4999999, 999, 49949991);
        dueToEarn(4999999, 101, 5049999);
    }

    static void thePenaltyIsRoundedForEachCost() {
        JointVenture x = withOneOut(101);
        x.cost(0, 2);
        x.cost(0, 2);
        Check.equal("to earn", x.toEarn(0, 1), 4);
    }

    static void thePenaltyIsRoundedForEachPartner() {
        JointVenture x = new JointVenture();
        x.setShares(2000, 2000, 2000, 2000, 2000);
        x.setPenalty(150);
        x.addWell();
        x.elect(0, 1, false);
        x.elect(0, 4, false);
        x.cost(0, 5);
        Check.equal("to earn of 1", x.toEarn(0, 1), 2);
        Check.equal("to earn of 4", x.toEarn(0, 4), 2);
    }

    // ---- incomes

    /** The partner 1 has this to earn back in the well 0, of which the voucher 1 is an income; its own part is half. */
    private static JointVenture withIncome(int toEarn, int income) {
        JointVenture x = withOneOut(100);
        x.cost(0, 2 * toEarn);
        Check.equal("to earn at first", x.toEarn(0, 1), toEarn);
        x.income(0, income);
        return x;
    }

    private static void dueBehind(JointVenture x, long toEarn, int backAt, int first, int second) {
        Check.equal("to earn", x.toEarn(0, 1), toEarn);
        Check.equal("in", x.isIn(0, 1), backAt != JointVenture.NONE);
        Check.equal("back", x.backAt(0, 1), backAt);
        dueCredited(x, first, second, 0, 0, 0);
    }

    static void anOwnPartThatIsLessBy1LeavesThePartnerOut() {
        dueBehind(withIncome(10, 18), 1, JointVenture.NONE, 18, 0);
    }

    static void anOwnPartOfJustWhatIsToEarnBringsThePartnerIn() {
        dueBehind(withIncome(10, 20), 0, 1, 20, 0);
        dueBehind(withIncome(1, 2), 0, 1, 2, 0);
        dueBehind(withIncome(5000000, 10000000), 0, 1, 10000000, 0);
    }

    static void anOwnPartThatIsGreaterBy1CreditsTheRest() {
        dueBehind(withIncome(10, 22), 0, 1, 21, 1);
    }

    static void anOwnPartThatIsFarGreaterCreditsTheRest() {
        dueBehind(withIncome(1, 10000000), 0, 1, 5000001, 4999999);
    }

    static void anOwnPartOf0TakesNothing() {
        dueBehind(withIncome(10, 1), 10, JointVenture.NONE, 1, 0);
    }

    static void onePartnerWithNothingToEarnGetsTheWholeOwnPart() {
        JointVenture x = withOneOut(300);
        x.income(0, 20);
        dueBehind(x, 0, 0, 10, 10);
    }

    static void onePartnerWithNothingToEarnComesInByAnOwnPartOf0() {
        JointVenture x = withOneOut(300);
        x.income(0, 1);
        dueBehind(x, 0, 0, 1, 0);
    }

    static void onePartnerWhoseCostsWereOf0ComesInWithTheWholeOwnPart() {
        JointVenture x = withOneOut(300);
        x.cost(0, 1);
        x.income(0, 2);
        dueBehind(x, 0, 1, 1, 1);
    }

    static void whatIsTakenIsDividedForEachPartnerWhoIsOut() {
        JointVenture x = withTwoOut();
        x.cost(0, 1000);
        x.income(0, 4);
        // One cent is taken of 2 and one of 3; both go to 0, the lower number.
        dueCredited(x, 3, 1, 0, 0, 0);
    }

    static void whatIsTakenGoesByTheSharesOfThoseWhoAreIn() {
        JointVenture x = Ventures.withShares(1000, 2000, 7000, 0, 0);
        x.elect(0, 2, false);
        x.cost(0, 1000);
        x.income(0, 10);
        dueCredited(x, 3, 7, 0, 0, 0);
    }

    static void whatIsTakenGoesToThoseWhoWereInAtTheBeginning() {
        JointVenture x = Ventures.withShares(5000, 1000, 4000, 0, 0);
        x.elect(0, 1, false);
        x.elect(0, 2, false);
        x.cost(0, 1000);
        x.income(0, 4000);
        // 1 has earned 300 and 2 has earned 1200; both sums go to 0 alone.
        dueCredited(x, 3500, 100, 400, 0, 0);
        Check.equal("1 is back", x.backAt(0, 1), 1);
        Check.equal("2 is back", x.backAt(0, 2), 1);
    }

    static void oneCanComeInWhileAnotherStaysOut() {
        JointVenture x = Ventures.withShares(9000, 100, 900, 0, 0);
        x.elect(0, 1, false);
        x.elect(0, 2, false);
        x.cost(0, 10);
        x.income(0, 10);
        // The own part of 1 was 0, that of 2 was 1, by 300.
        Check.equal("1 is back", x.backAt(0, 1), 1);
        Check.equal("2 is not back", x.backAt(0, 2), JointVenture.NONE);
        Check.equal("2 has to earn", x.toEarn(0, 2), 2);
    }

    static void onePartnerIsInFromTheNextVoucherOn() {
        JointVenture x = withIncome(10, 20);
        dueCharged(x, 20, 0, 0, 0, 0);
        x.cost(0, 20);
        dueCharged(x, 30, 10, 0, 0, 0);
        Check.equal("nothing to earn", x.toEarn(0, 1), 0);
        x.income(0, 20);
        dueCredited(x, 30, 10, 0, 0, 0);
    }

    static void onePartnerWhoIsBackDoesNotGoOutAgain() {
        JointVenture x = withIncome(10, 20);
        x.cost(0, 10000000);
        Check.equal("in", x.isIn(0, 1), true);
        x.income(0, 1);
        Check.equal("back", x.backAt(0, 1), 1);
    }

    static void nobodyComesInByACost() {
        JointVenture x = withOneOut(100);
        x.cost(0, 1);
        Check.equal("nothing to earn", x.toEarn(0, 1), 0);
        Check.equal("out", x.isIn(0, 1), false);
        Check.equal("not back", x.backAt(0, 1), JointVenture.NONE);
    }

    static void nobodyComesInByAnOverhead() {
        JointVenture x = withOneOut(100);
        x.setOverhead(1);
        x.overhead(0, 1);
        Check.equal("nothing to earn", x.toEarn(0, 1), 0);
        Check.equal("out", x.isIn(0, 1), false);
    }

    static void nobodyComesInByAMove() {
        JointVenture x = withOneOut(100);
        x.cost(0, 100);
        x.move(0, 1);
        Check.equal("nothing to earn", x.toEarn(0, 1), 0);
        Check.equal("out", x.isIn(0, 1), false);
        Check.equal("not back", x.backAt(0, 1), JointVenture.NONE);
        Check.equal("no weight", x.weight(0, 1), 0);
    }

    static void nobodyComesInByAMoveToTheWell() {
        JointVenture x = withOneOut(100);
        x.cost(1, 1);
        x.move(0, 0);
        Check.equal("the own part is 0", x.toEarn(0, 1), 0);
        Check.equal("out", x.isIn(0, 1), false);
        Check.equal("not back", x.backAt(0, 1), JointVenture.NONE);
        x.move(0, 0);
        Check.equal("out when it is left there", x.isIn(0, 1), false);
    }

    static void nobodyComesInByCash() {
        JointVenture x = withOneOut(100);
        x.call(0, 100);
        x.pay(0, 0);
        Check.equal("out", x.isIn(0, 1), false);
        Check.equal("not back", x.backAt(0, 1), JointVenture.NONE);
    }

    static void nobodyComesInByAnIncomeOfAnotherWell() {
        JointVenture x = withOneOut(100);
        x.income(1, 100);
        Check.equal("out", x.isIn(0, 1), false);
        Check.equal("not back", x.backAt(0, 1), JointVenture.NONE);
        Check.equal("whole own part in the other well", x.credited(1, 1), 50);
    }

    static void whatIsToEarnInAnotherWellIsNotTaken() {
        JointVenture x = withOneOut(100);
        x.elect(1, 1, false);
        x.cost(1, 1000);
        x.income(0, 100);
        dueCredited(x, 50, 50, 0, 0, 0);
        Check.equal("in", x.isIn(0, 1), true);
        Check.equal("out of the other well", x.isIn(1, 1), false);
        Check.equal("to earn in the other well", x.toEarn(1, 1), 500);
    }

    // ---- vouchers that are moved

    static void aMovedCostCountsAheadOfALaterIncome() {
        JointVenture x = withOneOut(100);
        x.cost(1, 20);
        x.income(0, 18);
        Check.equal("back without the cost", x.backAt(0, 1), 1);
        x.move(0, 0);
        dueBehind(x, 1, JointVenture.NONE, 18, 0);
    }

    static void aMovedCostCountsBehindAnEarlierIncome() {
        JointVenture x = withOneOut(100);
        x.income(0, 18);
        x.cost(1, 20);
        x.move(1, 0);
        dueBehind(x, 0, 0, 9, 9);
        dueCharged(x, 10, 10, 0, 0, 0);
    }

    static void aMovedCostIsGoneFromItsWell() {
        JointVenture x = withOneOut(100);
        x.cost(0, 20);
        x.income(0, 10);
        x.move(0, 1);
        dueBehind(x, 0, 1, 5, 5);
        dueCharged(x, 0, 0, 0, 0, 0);
        Check.equal("charged in the other well", x.charged(1, 1), 10);
    }

    static void aMovedCostTakesThePenaltyOfItsNewWell() {
        JointVenture x = new JointVenture();
        x.setShares(5000, 5000, 0, 0, 0);
        x.setPenalty(1000);
        x.addWell();
        x.setPenalty(100);
        x.addWell();
        x.elect(0, 1, false);
        x.elect(1, 1, false);
        x.cost(0, 2);
        x.move(0, 1);
        Check.equal("to earn in the new well", x.toEarn(1, 1), 1);
        Check.equal("to earn in the old well", x.toEarn(0, 1), 0);
    }

    // ---- the 512 calls of one object

    static void aVentureAnswersUntilItsCall512() {
        JointVenture x = new JointVenture();
        int calls = 0;
        for (int well = 0; well < 6; well++, calls++) {
            x.addWell();
        }
        for (int voucher = 0; voucher < 60; voucher++, calls++) {
            x.cost(0, 10000000);
        }
        for (int call = 0; call < 20; call++, calls++) {
            x.call(0, 10000000);
        }
        for (; calls < 511; calls++) {
            x.move(calls % 60, calls % 6);
        }
        // The costs stand in the wells 0 to 5 by turns now, 60 being a multiple of 6.
        Check.equal("the call 512", x.charged(5, 0), 100000000);
    }
}
