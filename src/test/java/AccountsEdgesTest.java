/** The edges of promises 14 to 19, a test for each sentence of the document that names one. */
public final class AccountsEdgesTest {
    public static void main(String[] args) {
        Check.runAll(AccountsEdgesTest.class);
    }

    /** The partner 1, with half of the shares, is out of the well 0, whose penalty is 100. */
    private static JointVenture withOneOut() {
        JointVenture x = new JointVenture();
        x.setShares(5000, 5000, 0, 0, 0);
        x.setPenalty(100);
        x.addWell();
        x.elect(0, 1, false);
        return x;
    }

    // ---- promise 14: isIn

    static void isInOfNoWellIsRefused() {
        Refusals.noSuchWell((x, well) -> x.isIn(well, 0));
        Refusals.takesEachWell((x, well) -> x.isIn(well, 0));
    }

    static void isInOfNoPartnerIsRefused() {
        Refusals.noSuchPartner((x, partner) -> x.isIn(0, partner));
        Refusals.takesEachPartner((x, partner) -> x.isIn(0, partner));
    }

    static void aPartnerWithTheShare0IsNotIn() {
        for (int partner = 0; partner < 5; partner++) {
            JointVenture x = withoutShareOf(partner);
            Check.equal("at first", x.isIn(0, partner), false);
            x.cost(0, 100);
            x.income(0, 100);
            Check.equal("behind vouchers", x.isIn(0, partner), false);
        }
    }

    private static JointVenture withoutShareOf(int partner) {
        int[] shares = {2500, 2500, 2500, 2500, 2500};
        shares[partner] = 0;
        return Ventures.withShares(shares[0], shares[1], shares[2], shares[3], shares[4]);
    }

    static void aPartnerWithTheShare1IsIn() {
        JointVenture x = Ventures.withShares(9999, 0, 0, 0, 1);
        Check.equal("4", x.isIn(0, 4), true);
        Check.equal("3", x.isIn(0, 3), false);
    }

    static void isInTellsOfTheTimeBehindAllVouchers() {
        JointVenture x = withOneOut();
        Check.equal("at first", x.isIn(0, 1), false);
        x.cost(0, 20);
        x.income(0, 18);
        Check.equal("1 cent to earn", x.isIn(0, 1), false);
        x.income(0, 2);
        Check.equal("nothing to earn", x.isIn(0, 1), true);
        x.cost(0, 20);
        Check.equal("behind a cost that follows", x.isIn(0, 1), true);
    }

    static void isInTellsOfOneWellAlone() {
        JointVenture x = withOneOut();
        x.addWell();
        Check.equal("the other well", x.isIn(1, 1), true);
        Check.equal("the well", x.isIn(0, 1), false);
    }

    // ---- promise 15: toEarn

    static void toEarnOfNoWellIsRefused() {
        Refusals.noSuchWell((x, well) -> x.toEarn(well, 0));
        Refusals.takesEachWell((x, well) -> x.toEarn(well, 0));
    }

    static void toEarnOfNoPartnerIsRefused() {
        Refusals.noSuchPartner((x, partner) -> x.toEarn(0, partner));
        Refusals.takesEachPartner((x, partner) -> x.toEarn(0, partner));
    }

    static void toEarnIs0WithoutACost() {
        JointVenture x = withOneOut();
        for (int partner = 0; partner < 5; partner++) {
            Check.equal("of " + partner, x.toEarn(0, partner), 0);
        }
    }

    static void toEarnIs0ForThoseWhoAreInOrHaveNoShare() {
        JointVenture x = withOneOut();
        x.cost(0, 10000000);
        for (int partner = 0; partner < 5; partner++) {
            Check.equal("of " + partner, x.toEarn(0, partner), partner == 1 ? 5000000 : 0);
        }
    }

    static void theLeastToEarnIs1() {
        JointVenture x = withOneOut();
        x.cost(0, 2);
        Check.equal("1 cent", x.toEarn(0, 1), 1);
        x.income(0, 2);
        Check.equal("nothing", x.toEarn(0, 1), 0);
    }

    /** The partner 4 is out, and has to earn back 99990000 for each of these costs. */
    private static JointVenture withGreatCosts(int count) {
        JointVenture x = new JointVenture();
        x.setShares(0, 0, 0, 1, 9999);
        x.setPenalty(1000);
        x.addWell();
        x.elect(0, 4, false);
        for (int voucher = 0; voucher < count; voucher++) {
            x.cost(0, 10000000);
        }
        return x;
    }

    static void theGreatestToEarnIsNoInt() {
        for (int count = 0; count <= 60; count++) {
            Check.equal("of " + count, withGreatCosts(count).toEarn(0, 4), count * 99990000L);
        }
    }

    static void whatIsTakenOfMoreThanAnIntIsExact() {
        // Among these counts are those for which the sum as int would be negative, or less than the own part.
        for (int count = 1; count < 60; count++) {
            JointVenture x = withGreatCosts(count);
            x.income(0, 10000000);
            Check.equal("to earn", x.toEarn(0, 4), count * 99990000L - 9999000L);
            Check.equal("credited to 3", x.credited(0, 3), 10000000);
            Check.equal("credited to 4", x.credited(0, 4), 0);
        }
    }

    static void toEarnTellsOfOneWellAlone() {
        JointVenture x = withOneOut();
        x.addWell();
        x.elect(1, 1, false);
        x.cost(0, 20);
        Check.equal("the other well", x.toEarn(1, 1), 0);
        x.cost(1, 6);
        Check.equal("the other well now", x.toEarn(1, 1), 3);
        Check.equal("the well", x.toEarn(0, 1), 10);
    }

    // ---- promise 16: backAt

    static void backAtOfNoWellIsRefused() {
        Refusals.noSuchWell((x, well) -> x.backAt(well, 0));
        Refusals.takesEachWell((x, well) -> x.backAt(well, 0));
    }

    static void backAtOfNoPartnerIsRefused() {
        Refusals.noSuchPartner((x, partner) -> x.backAt(0, partner));
        Refusals.takesEachPartner((x, partner) -> x.backAt(0, partner));
    }

    static void backAtIsNoneForThoseWhoNeverWereOut() {
        JointVenture x = withOneOut();
        x.cost(0, 2);
        x.income(0, 2);
        for (int partner = 0; partner < 5; partner++) {
            Check.equal("of " + partner, x.backAt(0, partner), partner == 1 ? 1 : JointVenture.NONE);
        }
    }

    static void backAtIsNoneForOneWhoIsOutStill() {
        JointVenture x = withOneOut();
        Check.equal("by no voucher", x.backAt(0, 1), JointVenture.NONE);
        x.cost(0, 20);
        x.income(0, 18);
        Check.equal("1 cent to earn", x.backAt(0, 1), JointVenture.NONE);
    }

    static void backAtIsNoneForOneWhoElectedToComeIn() {
        JointVenture x = withOneOut();
        x.elect(0, 1, true);
        x.income(0, 20);
        Check.equal("by election", x.backAt(0, 1), JointVenture.NONE);
    }

    static void theLeastBackAtIsTheVoucher0() {
        JointVenture x = withOneOut();
        x.income(0, 1);
        Check.equal("back", x.backAt(0, 1), 0);
    }

    static void theGreatestBackAtIsTheVoucher59() {
        JointVenture x = withOneOut();
        for (int voucher = 0; voucher < 59; voucher++) {
            x.cost(0, 2);
        }
        x.income(0, 118);
        Check.equal("back", x.backAt(0, 1), 59);
    }

    static void backAtCountsTheVouchersOfAllWells() {
        JointVenture x = withOneOut();
        x.addWell();
        x.cost(1, 1);
        x.income(1, 1);
        x.cost(1, 1);
        x.income(0, 1);
        Check.equal("back", x.backAt(0, 1), 3);
        Check.equal("of the other well", x.backAt(1, 1), JointVenture.NONE);
    }

    static void backAtStaysWithTheFirstIncomeThatBroughtThePartnerIn() {
        JointVenture x = withOneOut();
        x.income(0, 1);
        x.cost(0, 10);
        x.income(0, 100);
        Check.equal("back", x.backAt(0, 1), 0);
    }

    static void backAtFollowsMoves() {
        JointVenture x = withOneOut();
        x.addWell();
        x.cost(0, 20);
        x.cost(1, 20);
        x.income(0, 10);
        x.income(0, 10);
        Check.equal("by the second income", x.backAt(0, 1), 3);
        x.move(0, 1);
        Check.equal("by the first income", x.backAt(0, 1), 2);
        x.move(0, 0);
        x.move(1, 0);
        Check.equal("by none", x.backAt(0, 1), JointVenture.NONE);
    }

    // ---- promise 17: charged

    static void chargedOfNoWellIsRefused() {
        Refusals.noSuchWell((x, well) -> x.charged(well, 0));
        Refusals.takesEachWell((x, well) -> x.charged(well, 0));
    }

    static void chargedOfNoPartnerIsRefused() {
        Refusals.noSuchPartner((x, partner) -> x.charged(0, partner));
        Refusals.takesEachPartner((x, partner) -> x.charged(0, partner));
    }

    static void chargedIs0WithoutACost() {
        JointVenture x = withOneOut();
        x.income(0, 1000);
        x.call(0, 1000);
        x.pay(0, 0);
        for (int partner = 0; partner < 5; partner++) {
            Check.equal("of " + partner, x.charged(0, partner), 0);
        }
    }

    static void theGreatestChargeIs600000000() {
        JointVenture x = Ventures.withShares(1, 2499, 2500, 2500, 2500);
        for (int partner = 1; partner < 5; partner++) {
            x.elect(0, partner, false);
        }
        for (int voucher = 0; voucher < 60; voucher++) {
            x.cost(0, 10000000);
        }
        Check.equal("of the one who is in", x.charged(0, 0), 600000000);
        Check.equal("of one who is out", x.charged(0, 4), 0);
    }

    static void chargedTellsOfOneWellAlone() {
        JointVenture x = withOneOut();
        x.addWell();
        x.cost(0, 10);
        x.cost(1, 30);
        Check.equal("the well", x.charged(0, 0), 10);
        Check.equal("the other well", x.charged(1, 0), 15);
    }

    // ---- promise 18: credited

    static void creditedOfNoWellIsRefused() {
        Refusals.noSuchWell((x, well) -> x.credited(well, 0));
        Refusals.takesEachWell((x, well) -> x.credited(well, 0));
    }

    static void creditedOfNoPartnerIsRefused() {
        Refusals.noSuchPartner((x, partner) -> x.credited(0, partner));
        Refusals.takesEachPartner((x, partner) -> x.credited(0, partner));
    }

    static void creditedIs0WithoutAnIncome() {
        JointVenture x = withOneOut();
        x.cost(0, 1000);
        x.call(0, 1000);
        x.pay(0, 0);
        for (int partner = 0; partner < 5; partner++) {
            Check.equal("of " + partner, x.credited(0, partner), 0);
        }
    }

    static void theGreatestCreditIs600000000() {
        JointVenture x = Ventures.withShares(0, 0, 0, 0, 10000);
        for (int voucher = 0; voucher < 60; voucher++) {
            x.income(0, 10000000);
        }
        Check.equal("of the only one", x.credited(0, 4), 600000000);
        Check.equal("of one without a share", x.credited(0, 0), 0);
    }

    static void creditedTellsOfOneWellAlone() {
        JointVenture x = withOneOut();
        x.addWell();
        x.cost(0, 1000);
        x.income(0, 10);
        x.income(1, 30);
        Check.equal("the well", x.credited(0, 0), 10);
        Check.equal("the other well", x.credited(1, 0), 15);
    }

    // ---- promise 19: weight

    static void weightOfNoWellIsRefused() {
        Refusals.noSuchWell((x, well) -> x.weight(well, 0));
        Refusals.takesEachWell((x, well) -> x.weight(well, 0));
    }

    static void weightOfNoPartnerIsRefused() {
        Refusals.noSuchPartner((x, partner) -> x.weight(0, partner));
        Refusals.takesEachPartner((x, partner) -> x.weight(0, partner));
    }

    private static void dueWeights(JointVenture x, int... due) {
        for (int partner = 0; partner < 5; partner++) {
            Check.equal("weight of " + partner, x.weight(0, partner), due[partner]);
        }
    }

    static void theWeightIs0WithoutAShareOrOutOfTheWell() {
        JointVenture x = withOneOut();
        Check.equal("out", x.weight(0, 1), 0);
        Check.equal("no share", x.weight(0, 2), 0);
    }

    static void theWeightIs10000ForOneWhoIsInAlone() {
        dueWeights(withOneOut(), 10000, 0, 0, 0, 0);
        JointVenture x = Ventures.withShares(9999, 0, 0, 0, 1);
        x.elect(0, 0, false);
        dueWeights(x, 0, 0, 0, 0, 10000);
    }

    static void theWeightIsTheShareWhenAllAreIn() {
        dueWeights(Ventures.withShares(1, 2, 3, 4, 9990), 1, 2, 3, 4, 9990);
    }

    static void aCostThatCameNowWouldBeChargedByTheWeights() {
        JointVenture x = Ventures.withShares(2500, 2500, 2500, 2500, 0);
        x.elect(0, 1, false);
        dueWeights(x, 3334, 0, 3333, 3333, 0);
        x.cost(0, 10000);
        for (int partner = 0; partner < 5; partner++) {
            Check.equal("charged", x.charged(0, partner), x.weight(0, partner));
        }
    }

    static void theWeightsAre10000Together() {
        for (int first = 0; first < 10000; first += 713) {
            JointVenture x = Ventures.withShares(first, 0, 10000 - first - 7, 6, 1);
            x.elect(0, 3, false);
            int sum = 0;
            for (int partner = 0; partner < 5; partner++) {
                sum += x.weight(0, partner);
            }
            Check.equal("together", sum, 10000);
        }
    }

    static void theWeightTellsOfNow() {
        JointVenture x = withOneOut();
        dueWeights(x, 10000, 0, 0, 0, 0);
        x.income(0, 1);
        dueWeights(x, 5000, 5000, 0, 0, 0);
    }

    static void askingChangesNothing() {
        for (int part = 0; part < State.PARTS; part++) {
            for (int question = 0; question < State.QUESTIONS; question++) {
                JointVenture x = Stage.LIVED.make();
                State.part(question, x);
                Check.equal("all as before", State.part(part, x), State.part(part, Stage.LIVED.make()));
            }
        }
    }
}
