import java.util.function.Supplier;

/** The edges of promises 20 to 26, a test for each sentence of the document that names one. */
public final class CashEdgesTest {
    public static void main(String[] args) {
        Check.runAll(CashEdgesTest.class);
    }

    private static void dueAsked(JointVenture x, int call, int... due) {
        for (int partner = 0; partner < 5; partner++) {
            Check.equal("asked of " + partner, x.asked(call, partner), due[partner]);
        }
    }

    private static void dueOwed(JointVenture x, int... due) {
        for (int partner = 0; partner < 5; partner++) {
            Check.equal("owed by " + partner, x.owes(partner), due[partner]);
        }
    }

    /** Five partners with the same shares, and one call for this amount. */
    private static JointVenture withCall(int amount) {
        JointVenture x = Ventures.withShares(2000, 2000, 2000, 2000, 2000);
        x.call(0, amount);
        return x;
    }

    /** The call 0 for 100, of which these have paid. */
    private static JointVenture withPaid(int... payers) {
        JointVenture x = withCall(100);
        for (int partner : payers) {
            x.pay(0, partner);
        }
        return x;
    }

    private static JointVenture withCalls(int count) {
        JointVenture x = Ventures.withOneWell();
        for (int call = 0; call < count; call++) {
            x.call(0, 10);
        }
        return x;
    }

    // ---- promise 20: call

    static void aCallCanBeFor1() {
        JointVenture x = withCall(1);
        dueAsked(x, 0, 1, 0, 0, 0, 0);
    }

    static void aCallCanBeFor10000000() {
        JointVenture x = withCall(10000000);
        dueAsked(x, 0, 2000000, 2000000, 2000000, 2000000, 2000000);
        JointVenture y = Ventures.withOneWell();
        y.call(0, 10000000);
        dueAsked(y, 0, 10000000, 0, 0, 0, 0);
    }

    static void aCallForLessThan1IsRefused() {
        Refusals.tooSmallOfAWell(1, (x, amount) -> x.call(0, amount));
    }

    static void aCallForMoreThan10000000IsRefused() {
        Refusals.tooLargeOfAWell(10000000, (x, amount) -> x.call(0, amount));
    }

    static void aCallOfNoWellIsRefused() {
        Refusals.noSuchWell((x, well) -> x.call(well, 1));
    }

    static void aCallOfNoWellIsRefusedAheadOfItsAmount() {
        Refusals.noSuchWell((x, well) -> x.call(well, 0));
        Refusals.noSuchWell((x, well) -> x.call(well, 10000001));
    }

    static void aWrongCallIsRefusedAheadOfTwentyCalls() {
        Refusals.refused("0", () -> withCalls(20), Check.ARGUMENT, x -> x.call(0, 0));
        Refusals.refused("10000001", () -> withCalls(20), Check.ARGUMENT, x -> x.call(0, 10000001));
    }

    static void theCall19IsTheLastOne() {
        for (int count = 0; count < 20; count++) {
            JointVenture x = withCalls(count);
            Check.equal("its number", x.call(0, 7), count);
            Check.equal("asked", x.asked(count, 0), 7);
        }
    }

    static void aCallBehindTwentyIsRefused() {
        Refusals.refused("20 calls", () -> withCalls(20), Check.STATE, x -> x.call(0, 1));
        Refusals.refused("in each well", Stage.FULL::make, Check.STATE, x -> x.call(5, 10000000));
    }

    static void aCallIsTakenBehindSixtyVouchers() {
        JointVenture x = Ventures.withOneWell();
        for (int voucher = 0; voucher < 60; voucher++) {
            x.cost(0, 1);
        }
        Check.equal("its number", x.call(0, 1), 0);
    }

    static void eachOfSixWellsTakesACall() {
        JointVenture x = new JointVenture();
        x.setShares(5000, 5000, 0, 0, 0);
        for (int well = 0; well < 6; well++) {
            x.addWell();
            x.elect(well, well % 2, false);
        }
        for (int well = 0; well < 6; well++) {
            Check.equal("its number", x.call(well, 10), well);
            dueAsked(x, well, well % 2 == 0 ? 0 : 10, well % 2 == 0 ? 10 : 0, 0, 0, 0);
        }
    }

    static void aCallFor10000AsksForTheWeights() {
        JointVenture x = Ventures.withShares(2500, 2500, 2500, 2500, 0);
        x.elect(0, 1, false);
        x.call(0, 10000);
        dueAsked(x, 0, 3334, 0, 3333, 3333, 0);
    }

    static void aCallIsDividedByTheRoundedWeights() {
        JointVenture x = Ventures.withShares(2500, 2500, 2500, 2500, 0);
        x.elect(0, 1, false);
        x.call(0, 10000000);
        dueAsked(x, 0, 3334000, 0, 3333000, 3333000, 0);
    }

    static void ofEqualRemaindersTheLowerNumberIsAskedFirst() {
        dueAsked(withCall(4), 0, 1, 1, 1, 1, 0);
        dueAsked(withCall(6), 0, 2, 1, 1, 1, 1);
        JointVenture x = Ventures.withShares(0, 0, 5000, 0, 5000);
        x.call(0, 1);
        dueAsked(x, 0, 0, 0, 1, 0, 0);
    }

    static void theGreatestRemainderIsAskedFirst() {
        JointVenture x = Ventures.withShares(3333, 3333, 3334, 0, 0);
        x.call(0, 1);
        dueAsked(x, 0, 0, 0, 1, 0, 0);
    }

    static void oneWhoIsOutIsAskedForNothing() {
        JointVenture x = Ventures.withShares(1, 9999, 0, 0, 0);
        x.elect(0, 1, false);
        x.call(0, 10000000);
        dueAsked(x, 0, 10000000, 0, 0, 0, 0);
    }

    static void whatIsAskedIsOfTheTimeOfTheCall() {
        JointVenture x = Ventures.withShares(5000, 5000, 0, 0, 0);
        x.addWell();
        x.elect(0, 1, false);
        x.cost(1, 100);
        x.call(0, 10);
        x.income(0, 1);
        x.call(0, 10);
        dueAsked(x, 0, 10, 0, 0, 0, 0);
        dueAsked(x, 1, 5, 5, 0, 0, 0);
        x.move(0, 0);
        Check.equal("out by the move", x.isIn(0, 1), false);
        dueAsked(x, 0, 10, 0, 0, 0, 0);
        dueAsked(x, 1, 5, 5, 0, 0, 0);
    }

    static void whatIsAskedStaysBehindAnElection() {
        JointVenture x = withCall(100);
        x.elect(0, 4, false);
        dueAsked(x, 0, 20, 20, 20, 20, 20);
        x.call(0, 100);
        dueAsked(x, 1, 25, 25, 25, 25, 0);
        x.elect(0, 4, true);
        dueAsked(x, 1, 25, 25, 25, 25, 0);
    }

    // ---- promise 21: pay

    static void aPaymentOfNoCallIsRefused() {
        Refusals.noSuchCall((x, call) -> x.pay(call, 0));
    }

    static void aPaymentOfNoPartnerIsRefused() {
        Refusals.noSuchPartner((x, partner) -> x.pay(0, partner));
    }

    static void aPaymentOfNoPartnerIsRefusedAheadOfNothingAsked() {
        Refusals.refused("5", () -> withPaid(0, 1, 2, 3, 4), Check.INDEX, x -> x.pay(0, 5));
        Refusals.refused("-1", () -> withPaid(0, 1, 2, 3, 4), Check.INDEX, x -> x.pay(0, -1));
    }

    static void aPaymentOfNoCallIsRefusedAheadOfNothingAsked() {
        Refusals.refused("1", () -> withPaid(0, 1, 2, 3, 4), Check.INDEX, x -> x.pay(1, 0));
        Refusals.refused("-1", () -> withPaid(0, 1, 2, 3, 4), Check.INDEX, x -> x.pay(-1, 0));
    }

    static void eachPartnerCanPay() {
        for (int partner = 0; partner < 5; partner++) {
            JointVenture x = withCall(100);
            Check.equal("pays", x.pay(0, partner), 20);
            for (int other = 0; other < 5; other++) {
                Check.equal("paid by " + other, x.paid(other), other == partner ? 20 : 0);
            }
        }
    }

    static void eachOfTwentyCallsCanBePaid() {
        JointVenture x = Ventures.withOneWell();
        for (int call = 0; call < 20; call++) {
            x.call(0, 1 + call);
        }
        Check.equal("the call 19", x.pay(19, 0), 20);
        for (int call = 0; call < 19; call++) {
            Check.equal("the call " + call, x.pay(call, 0), 1 + call);
        }
    }

    static void theLeastPaymentIs1() {
        JointVenture x = withCall(1);
        Check.equal("pays", x.pay(0, 0), 1);
        Check.equal("paid", x.paid(0), 1);
    }

    static void theGreatestPaymentIs10000000() {
        JointVenture x = Ventures.withOneWell();
        x.call(0, 10000000);
        Check.equal("pays", x.pay(0, 0), 10000000);
        Check.equal("paid", x.paid(0), 10000000);
    }

    static void aPaymentOfNothingAskedIsRefused() {
        Refusals.refused("0 cents", () -> withCall(1), Check.STATE, x -> x.pay(0, 1));
        Refusals.refused("0 cents of the last", () -> withCall(4), Check.STATE, x -> x.pay(0, 4));
    }

    static void aPaymentWithoutAShareIsRefused() {
        Refusals.refused("no share", () -> withCalls(1), Check.STATE, x -> x.pay(0, 4));
    }

    static void aPaymentOfOneWhoIsOutIsRefused() {
        Refusals.refused("out", () -> {
            JointVenture x = Ventures.withShares(5000, 5000, 0, 0, 0);
            x.elect(0, 0, false);
            x.call(0, 100);
            return x;
        }, Check.STATE, x -> x.pay(0, 0));
    }

    static void aSecondPaymentIsRefused() {
        Refusals.refused("paid all", () -> withPaid(2), Check.STATE, x -> x.pay(0, 2));
    }

    static void aPaymentOfOneWhoseCallWasSharedOutIsRefused() {
        Supplier<JointVenture> setUp = () -> {
            JointVenture x = withPaid(2);
            x.shareOut(0);
            return x;
        };
        Refusals.refused("0 is not asked any more", setUp, Check.STATE, x -> x.pay(0, 0));
        Refusals.refused("4 is not asked any more", setUp, Check.STATE, x -> x.pay(0, 4));
    }

    static void aPayerPaysTheRestAloneBehindSharingOut() {
        JointVenture x = withPaid(2);
        x.shareOut(0);
        Check.equal("asked", x.asked(0, 2), 100);
        Check.equal("the rest", x.pay(0, 2), 80);
        Check.equal("paid", x.paid(2), 100);
        Check.refused("nothing more", Check.STATE, () -> x.pay(0, 2));
    }

    static void aPaymentChangesNothingThatIsAsked() {
        JointVenture x = withPaid(0, 4);
        dueAsked(x, 0, 20, 20, 20, 20, 20);
        dueOwed(x, 0, 0, 0, 0, 0);
    }

    static void aPaymentIsOfOneCallAlone() {
        JointVenture x = withCall(100);
        x.call(0, 200);
        Check.equal("pays the call 1", x.pay(1, 3), 40);
        Check.equal("paid", x.paid(3), 40);
        Check.equal("pays the call 0", x.pay(0, 3), 20);
        Check.equal("paid of both", x.paid(3), 60);
    }

    // ---- promise 22: shareOut

    static void sharingOutNoCallIsRefused() {
        Refusals.noSuchCall((x, call) -> x.shareOut(call));
    }

    static void sharingOutACallThatNobodyPaidIsRefused() {
        Refusals.refused("nobody", () -> withPaid(), Check.STATE, x -> x.shareOut(0));
    }

    static void sharingOutACallOfWhichAnotherWasPaidIsRefused() {
        Refusals.refused("another", () -> {
            JointVenture x = withPaid(0);
            x.call(0, 50);
            return x;
        }, Check.STATE, x -> x.shareOut(1));
    }

    static void sharingOutACallThatAllPaidIsRefused() {
        Refusals.refused("all", () -> withPaid(0, 1, 2, 3, 4), Check.STATE, x -> x.shareOut(0));
    }

    static void sharingOutACallThatAllWhoAreAskedPaidIsRefused() {
        Refusals.refused("1 cent", () -> {
            JointVenture x = withCall(1);
            x.pay(0, 0);
            return x;
        }, Check.STATE, x -> x.shareOut(0));
        Refusals.refused("one is out", () -> {
            JointVenture x = Ventures.withShares(5000, 0, 0, 0, 5000);
            x.elect(0, 4, false);
            x.call(0, 100);
            x.pay(0, 0);
            return x;
        }, Check.STATE, x -> x.shareOut(0));
    }

    static void sharingOutTwoTimesIsRefused() {
        Refusals.refused("with a rest", () -> {
            JointVenture x = withPaid(0);
            x.shareOut(0);
            return x;
        }, Check.STATE, x -> x.shareOut(0));
        Refusals.refused("with the rest paid", () -> {
            JointVenture x = withPaid(0);
            x.shareOut(0);
            x.pay(0, 0);
            return x;
        }, Check.STATE, x -> x.shareOut(0));
    }

    static void eachOfTwentyCallsCanBeSharedOut() {
        JointVenture x = Ventures.withShares(5000, 5000, 0, 0, 0);
        for (int call = 0; call < 20; call++) {
            x.call(0, 10);
            x.pay(call, 1);
        }
        Check.equal("the call 19", x.shareOut(19), 5);
        dueAsked(x, 19, 0, 10, 0, 0, 0);
        for (int call = 0; call < 19; call++) {
            dueAsked(x, call, 5, 5, 0, 0, 0);
            Check.equal("the call " + call, x.shareOut(call), 5);
        }
        dueOwed(x, 100, 0, 0, 0, 0);
    }

    static void theLeastThatIsAskedAnewIs1() {
        JointVenture x = withCall(2);
        x.pay(0, 1);
        Check.equal("asked anew", x.shareOut(0), 1);
        dueAsked(x, 0, 0, 2, 0, 0, 0);
        dueOwed(x, 1, 0, 0, 0, 0);
    }

    static void theGreatestThatIsAskedAnewIs9999000() {
        JointVenture x = Ventures.withShares(1, 9999, 0, 0, 0);
        x.call(0, 10000000);
        x.pay(0, 0);
        Check.equal("asked anew", x.shareOut(0), 9999000);
        dueAsked(x, 0, 10000000, 0, 0, 0, 0);
        dueOwed(x, 0, 9999000, 0, 0, 0);
        Check.equal("the rest", x.pay(0, 0), 9999000);
    }

    static void greatSumsAreSharedOutExactly() {
        JointVenture x = Ventures.withShares(1, 4999, 5000, 0, 0);
        x.call(0, 10000000);
        x.pay(0, 0);
        x.pay(0, 1);
        Check.equal("asked anew", x.shareOut(0), 5000000);
        dueAsked(x, 0, 2000, 9998000, 0, 0, 0);
    }

    static void onePartnerOfFiveHasPaid() {
        for (int payer = 0; payer < 5; payer++) {
            JointVenture x = withPaid(payer);
            Check.equal("asked anew", x.shareOut(0), 80);
            for (int partner = 0; partner < 5; partner++) {
                Check.equal("asked of " + partner, x.asked(0, partner), partner == payer ? 100 : 0);
                Check.equal("owed by " + partner, x.owes(partner), partner == payer ? 0 : 20);
            }
        }
    }

    static void onePartnerOfFiveHasNotPaid() {
        for (int debtor = 0; debtor < 5; debtor++) {
            JointVenture x = withCall(100);
            for (int partner = 0; partner < 5; partner++) {
                if (partner != debtor) {
                    x.pay(0, partner);
                }
            }
            Check.equal("asked anew", x.shareOut(0), 20);
            for (int partner = 0; partner < 5; partner++) {
                Check.equal("asked of " + partner, x.asked(0, partner), partner == debtor ? 0 : 25);
                Check.equal("owed by " + partner, x.owes(partner), partner == debtor ? 20 : 0);
            }
        }
    }

    static void aPaymentOf1CentIsSomething() {
        JointVenture x = withCall(3);
        x.pay(0, 2);
        Check.equal("asked anew", x.shareOut(0), 2);
        dueAsked(x, 0, 0, 0, 3, 0, 0);
        dueOwed(x, 1, 1, 0, 0, 0);
    }

    static void whatIsSharedOutGoesByWhatWasAsked() {
        JointVenture x = Ventures.withShares(1000, 2000, 7000, 0, 0);
        x.call(0, 10);
        x.pay(0, 0);
        x.pay(0, 1);
        x.shareOut(0);
        // The 7 of 2 by 1 and 2: 2.33 and 4.67.
        dueAsked(x, 0, 3, 7, 0, 0, 0);
    }

    static void whatIsSharedOutGoesByWhatWasAskedNotByShares() {
        JointVenture x = withCall(7);
        x.pay(0, 1);
        x.pay(0, 2);
        x.shareOut(0);
        // The 4 of the others by 2 and 1: 2.67 and 1.33.
        dueAsked(x, 0, 0, 5, 2, 0, 0);
        dueOwed(x, 2, 0, 0, 1, 1);
    }

    static void aPayerOfWhomNothingMoreIsAskedIsAskedAsBefore() {
        JointVenture x = withCall(3);
        x.pay(0, 0);
        x.pay(0, 1);
        Check.equal("asked anew", x.shareOut(0), 1);
        dueAsked(x, 0, 2, 1, 0, 0, 0);
        dueOwed(x, 0, 0, 1, 0, 0);
    }

    static void ofEqualRemaindersTheLowerNumberIsAskedAnewFirst() {
        JointVenture x = withCall(5);
        x.pay(0, 1);
        x.pay(0, 3);
        x.shareOut(0);
        dueAsked(x, 0, 0, 3, 0, 2, 0);
    }

    static void sharingOutPaysNothing() {
        JointVenture x = withPaid(0, 1);
        x.shareOut(0);
        Check.equal("paid by 0", x.paid(0), 20);
        Check.equal("paid by 1", x.paid(1), 20);
        Check.equal("paid by 2", x.paid(2), 0);
    }

    static void sharingOutLeavesTheOtherCalls() {
        JointVenture x = withPaid(0);
        x.call(0, 50);
        x.pay(1, 4);
        x.shareOut(0);
        dueAsked(x, 1, 10, 10, 10, 10, 10);
        Check.equal("the other call", x.shareOut(1), 40);
        dueOwed(x, 10, 30, 30, 30, 20);
    }

    // ---- promise 23: asked

    static void whatNoCallAsksIsRefused() {
        Refusals.noSuchCall((x, call) -> x.asked(call, 0));
        Refusals.takesEachCall((x, call) -> x.asked(call, 0));
    }

    static void whatIsAskedOfNoPartnerIsRefused() {
        Refusals.noSuchPartner((x, partner) -> x.asked(0, partner));
        Refusals.takesEachPartner((x, partner) -> x.asked(0, partner));
    }

    static void whatIsAskedIsTheWholeCallTogether() {
        for (int amount = 1; amount < 30; amount++) {
            JointVenture x = withCall(amount);
            int sum = 0;
            for (int partner = 0; partner < 5; partner++) {
                sum += x.asked(0, partner);
            }
            Check.equal("together", sum, amount);
        }
    }

    static void whatIsAskedIsToldPaidOrNot() {
        JointVenture x = withPaid(0);
        Check.equal("paid", x.asked(0, 0), 20);
        Check.equal("not paid", x.asked(0, 1), 20);
        x.shareOut(0);
        x.pay(0, 0);
        Check.equal("paid the rest", x.asked(0, 0), 100);
    }

    // ---- promise 24: paid

    static void whatNoPartnerPaidIsRefused() {
        Refusals.noSuchPartner((x, partner) -> x.paid(partner));
        Refusals.takesEachPartner((x, partner) -> x.paid(partner));
    }

    static void whatWasPaidIs0UntilAPayment() {
        JointVenture x = withCall(100);
        for (int partner = 0; partner < 5; partner++) {
            Check.equal("paid by " + partner, x.paid(partner), 0);
        }
    }

    static void theGreatestThatWasPaidIs200000000() {
        JointVenture x = Ventures.withOneWell();
        for (int call = 0; call < 20; call++) {
            x.call(0, 10000000);
            x.pay(call, 0);
            Check.equal("paid", x.paid(0), (call + 1) * 10000000);
        }
    }

    // ---- promise 25: owes

    static void whatNoPartnerOwesIsRefused() {
        Refusals.noSuchPartner((x, partner) -> x.owes(partner));
        Refusals.takesEachPartner((x, partner) -> x.owes(partner));
    }

    static void nothingIsOwedUntilACallIsSharedOut() {
        JointVenture x = withPaid(0);
        dueOwed(x, 0, 0, 0, 0, 0);
        x.shareOut(0);
        dueOwed(x, 0, 20, 20, 20, 20);
    }

    static void oneWhoWasAskedForNothingOwesNothing() {
        JointVenture x = withCall(3);
        x.pay(0, 0);
        x.shareOut(0);
        dueOwed(x, 0, 1, 1, 0, 0);
    }

    static void theGreatestThatIsOwedIs199980000() {
        JointVenture x = Ventures.withShares(1, 9999, 0, 0, 0);
        for (int call = 0; call < 20; call++) {
            x.call(0, 10000000);
            x.pay(call, 0);
            x.shareOut(call);
            Check.equal("owed", x.owes(1), (call + 1) * 9999000);
        }
    }

    static void whatIsOwedStaysBehindThePaymentOfTheRest() {
        JointVenture x = withPaid(0);
        x.shareOut(0);
        x.pay(0, 0);
        dueOwed(x, 0, 20, 20, 20, 20);
    }

    static void whatIsOwedStaysWhateverFollows() {
        JointVenture x = withPaid(0);
        x.shareOut(0);
        x.call(0, 50);
        dueOwed(x, 0, 20, 20, 20, 20);
        x.pay(1, 1);
        dueOwed(x, 0, 20, 20, 20, 20);
        x.cost(0, 100);
        x.income(0, 100000);
        x.move(0, 0);
        dueOwed(x, 0, 20, 20, 20, 20);
    }

    // ---- promise 26: balance

    static void theBalanceOfNoPartnerIsRefused() {
        Refusals.noSuchPartner((x, partner) -> x.balance(partner));
        Refusals.takesEachPartner((x, partner) -> x.balance(partner));
    }

    static void theBalanceIs0AtFirst() {
        JointVenture x = withCall(100);
        for (int partner = 0; partner < 5; partner++) {
            Check.equal("of " + partner, x.balance(partner), 0);
        }
    }

    static void theBalanceGrowsByWhatIsPaid() {
        Check.equal("paid", withPaid(3).balance(3), 20);
        Check.equal("not paid", withPaid(3).balance(2), 0);
    }

    static void theBalanceGrowsByWhatIsCredited() {
        JointVenture x = withCall(100);
        x.income(0, 5);
        Check.equal("credited", x.balance(4), 1);
    }

    static void theBalanceFallsByWhatIsCharged() {
        JointVenture x = withCall(100);
        x.cost(0, 5);
        Check.equal("charged", x.balance(4), -1);
    }

    static void theBalanceFallsByWhatIsOwed() {
        JointVenture x = withPaid(0);
        x.shareOut(0);
        Check.equal("owed", x.balance(4), -20);
        Check.equal("asked anew, not paid", x.balance(0), 20);
        x.pay(0, 0);
        Check.equal("paid the rest", x.balance(0), 100);
    }

    static void theBalanceCountsAllSixWells() {
        JointVenture x = new JointVenture();
        for (int well = 0; well < 6; well++) {
            x.addWell();
            x.cost(well, 1 << well);
            x.income(well, 100 << well);
        }
        Check.equal("of all", x.balance(0), 6300 - 63);
    }

    static void theBalanceCountsAllTwentyCalls() {
        JointVenture x = Ventures.withOneWell();
        for (int call = 0; call < 20; call++) {
            x.call(0, 1 << call);
            x.pay(call, 0);
        }
        Check.equal("of all", x.balance(0), (1 << 20) - 1);
    }

    static void theGreatestBalanceIs800000000() {
        JointVenture x = Ventures.withOneWell();
        for (int voucher = 0; voucher < 60; voucher++) {
            x.income(0, 10000000);
        }
        for (int call = 0; call < 20; call++) {
            x.call(0, 10000000);
            x.pay(call, 0);
        }
        Check.equal("of the only one", x.balance(0), 800000000);
    }

    static void theLeastBalanceIsOfGreatChargesAndDebts() {
        JointVenture x = Ventures.withShares(1, 9999, 0, 0, 0);
        for (int voucher = 0; voucher < 60; voucher++) {
            x.cost(0, 10000000);
        }
        for (int call = 0; call < 20; call++) {
            x.call(0, 10000000);
            x.pay(call, 0);
            x.shareOut(call);
        }
        Check.equal("of 1", x.balance(1), -599940000L - 199980000L);
        Check.equal("of 0", x.balance(0), 20 * 1000L - 60 * 1000L);
    }
}
