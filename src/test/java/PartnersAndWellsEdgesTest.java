import java.util.function.Consumer;
import java.util.function.Supplier;

/** The edges of promises 1 to 6, a test for each sentence of the document that names one. */
public final class PartnersAndWellsEdgesTest {
    public static void main(String[] args) {
        Check.runAll(PartnersAndWellsEdgesTest.class);
    }

    private static JointVenture withSharesAlone(int[] shares) {
        JointVenture x = new JointVenture();
        setShares(x, shares);
        return x;
    }

    private static void setShares(JointVenture x, int[] shares) {
        x.setShares(shares[0], shares[1], shares[2], shares[3], shares[4]);
    }

    private static void dueShares(JointVenture x, int... shares) {
        int well = x.addWell();
        for (int partner = 0; partner < 5; partner++) {
            Check.equal("share of " + partner, x.weight(well, partner), shares[partner]);
            Check.equal("in is " + partner, x.isIn(well, partner), shares[partner] > 0);
        }
    }

    // ---- promise 1: a new object

    static void aNewVentureHasNoWells() {
        JointVenture x = new JointVenture();
        Check.refused("isIn", Check.INDEX, () -> x.isIn(0, 0));
        Check.refused("cost", Check.INDEX, () -> x.cost(0, 1));
        Check.refused("call", Check.INDEX, () -> x.call(0, 1));
        Check.equal("the first well", x.addWell(), 0);
    }

    static void aNewVentureHasNoVouchers() {
        JointVenture x = new JointVenture();
        Check.equal("vouchers", x.vouchers(), 0);
        Check.refused("wellOf", Check.INDEX, () -> x.wellOf(0));
        x.addWell();
        Check.equal("vouchers with a well", x.vouchers(), 0);
        Check.equal("the first voucher", x.cost(0, 1), 0);
    }

    static void aNewVentureHasNoCalls() {
        JointVenture x = new JointVenture();
        Check.refused("asked", Check.INDEX, () -> x.asked(0, 0));
        Check.refused("pay", Check.INDEX, () -> x.pay(0, 0));
        Check.refused("shareOut", Check.INDEX, () -> x.shareOut(0));
        x.addWell();
        Check.equal("the first call", x.call(0, 1), 0);
    }

    static void aNewPenaltyIs300() {
        Check.equal("the penalty before", new JointVenture().setPenalty(100), 300);
        JointVenture x = Ventures.withShares(5000, 5000, 0, 0, 0);
        x.elect(0, 1, false);
        x.cost(0, 2);
        Check.equal("to earn of 1 cent", x.toEarn(0, 1), 3);
    }

    static void aNewOverheadIs0() {
        Check.equal("the overhead before", new JointVenture().setOverhead(1), 0);
        JointVenture x = new JointVenture();
        x.addWell();
        Check.refused("overhead", Check.STATE, () -> x.overhead(0, 1));
    }

    static void atFirstThePartner0HasAllShares() {
        dueShares(new JointVenture(), 10000, 0, 0, 0, 0);
    }

    static void aNewVentureHasNoCash() {
        JointVenture x = new JointVenture();
        for (int partner = 0; partner < 5; partner++) {
            Check.equal("paid by " + partner, x.paid(partner), 0);
            Check.equal("owed by " + partner, x.owes(partner), 0);
            Check.equal("balance of " + partner, x.balance(partner), 0);
        }
    }

    static void aNewVentureHasNothingOfAnOlderOne() {
        String[] before = new String[State.PARTS];
        for (int part = 0; part < State.PARTS; part++) {
            before[part] = State.part(part, new JointVenture());
        }
        Stage.FULL.make();
        for (int part = 0; part < State.PARTS; part++) {
            Check.equal("a new venture", State.part(part, new JointVenture()), before[part]);
        }
    }

    static void noneIsLessThan0() {
        Check.equal("NONE", JointVenture.NONE, -1);
    }

    // ---- promise 2: setShares

    static void eachShareCanBe10000AndTheOthers0() {
        for (int partner = 0; partner < 5; partner++) {
            int[] shares = new int[5];
            shares[partner] = 10000;
            dueShares(withSharesAlone(shares), shares);
        }
    }

    static void eachShareCanBe1And9999() {
        for (int partner = 0; partner < 5; partner++) {
            int[] shares = new int[5];
            shares[partner] = 1;
            shares[(partner + 1) % 5] = 9999;
            dueShares(withSharesAlone(shares), shares);
        }
    }

    static void aShareOfMinus1IsRefused() {
        for (int partner = 0; partner < 5; partner++) {
            int[] shares = new int[5];
            shares[partner] = -1;
            shares[(partner + 1) % 5] = 10000;
            shares[(partner + 3) % 5] = 1;
            Refusals.refused("-1 for " + partner, JointVenture::new, Check.ARGUMENT, x -> setShares(x, shares));
        }
    }

    static void aShareOf10001IsRefused() {
        for (int partner = 0; partner < 5; partner++) {
            int[] shares = new int[5];
            shares[partner] = 10001;
            Refusals.refused("10001 for " + partner, JointVenture::new, Check.ARGUMENT, x -> setShares(x, shares));
            shares[(partner + 2) % 5] = -1;
            Refusals.refused("and -1", JointVenture::new, Check.ARGUMENT, x -> setShares(x, shares));
        }
    }

    static void sharesAtTheEndsOfTheIntRangeAreRefused() {
        for (int partner = 0; partner < 5; partner++) {
            int[] shares = {2000, 2000, 2000, 2000, 2000};
            shares[partner] = Integer.MAX_VALUE;
            Refusals.refused("greatest int", JointVenture::new, Check.ARGUMENT, x -> setShares(x, shares));
            int[] others = {2000, 2000, 2000, 2000, 2000};
            others[partner] = Integer.MIN_VALUE;
            Refusals.refused("least int", JointVenture::new, Check.ARGUMENT, x -> setShares(x, others));
        }
    }

    static void sharesThatWrapAroundTo10000AreRefused() {
        int[][] wrapping = {{Integer.MAX_VALUE, Integer.MAX_VALUE, 10002, 0, 0},
            {Integer.MIN_VALUE, Integer.MIN_VALUE, 10000, 0, 0},
            {Integer.MAX_VALUE, Integer.MIN_VALUE, 10000, 1, 0},
            {0, 0, 1 << 30, 1 << 30, Integer.MIN_VALUE + 10000}};
        for (int[] shares : wrapping) {
            Check.equal("the sum as int", shares[0] + shares[1] + shares[2] + shares[3] + shares[4], 10000);
            Refusals.refused("a sum that wraps", JointVenture::new, Check.ARGUMENT, x -> setShares(x, shares));
        }
    }

    static void sharesOf9999TogetherAreRefused() {
        sumIsRefused(new int[] {9999, 0, 0, 0, 0});
        sumIsRefused(new int[] {2000, 2000, 2000, 2000, 1999});
    }

    static void sharesOf10001TogetherAreRefused() {
        sumIsRefused(new int[] {10000, 0, 0, 0, 1});
        sumIsRefused(new int[] {2001, 2000, 2000, 2000, 2000});
    }

    static void sharesOfTheLeastAndTheGreatestSumAreRefused() {
        sumIsRefused(new int[] {0, 0, 0, 0, 0});
        sumIsRefused(new int[] {10000, 10000, 10000, 10000, 10000});
    }

    private static void sumIsRefused(int[] shares) {
        Refusals.refused("a wrong sum", JointVenture::new, Check.ARGUMENT, x -> setShares(x, shares));
    }

    static void theLastSharesBeforeAWellCount() {
        JointVenture x = withSharesAlone(new int[] {0, 0, 0, 0, 10000});
        Check.refused("a refused change", Check.ARGUMENT, () -> x.setShares(1, 2, 3, 4, 5));
        x.setShares(2000, 2000, 2000, 2000, 2000);
        x.setShares(1, 2, 3, 4, 9990);
        dueShares(x, 1, 2, 3, 4, 9990);
    }

    static void sharesWithOneWellAreRefused() {
        Refusals.refused("one well", () -> Ventures.withShares(5000, 5000, 0, 0, 0), Check.STATE,
                x -> x.setShares(0, 0, 0, 5000, 5000));
    }

    static void sharesWithSixWellsAreRefused() {
        Refusals.refused("six wells", Stage.FULL::make, Check.STATE, x -> x.setShares(10000, 0, 0, 0, 0));
    }

    static void theSameSharesWithAWellAreRefused() {
        Refusals.refused("as before", () -> Ventures.withShares(5000, 5000, 0, 0, 0), Check.STATE,
                x -> x.setShares(5000, 5000, 0, 0, 0));
    }

    static void aWrongShareIsRefusedAheadOfAWell() {
        for (int partner = 0; partner < 5; partner++) {
            int[] shares = new int[5];
            shares[partner] = -1;
            shares[(partner + 1) % 5] = 10000;
            shares[(partner + 2) % 5] = 1;
            Refusals.refused("-1 for " + partner, Stage.LIVED::make, Check.ARGUMENT, x -> setShares(x, shares));
        }
    }

    static void aWrongSumIsRefusedAheadOfAWell() {
        Refusals.refused("9999", Stage.LIVED::make, Check.ARGUMENT, x -> x.setShares(0, 0, 0, 0, 9999));
        Refusals.refused("10001", Stage.FULL::make, Check.ARGUMENT, x -> x.setShares(1, 0, 0, 0, 10000));
    }

    // ---- promise 3: setPenalty

    private static long toEarnOf100Cents(JointVenture x) {
        int well = x.addWell();
        x.elect(well, 1, false);
        x.cost(well, 200);
        return x.toEarn(well, 1);
    }

    static void thePenaltyCanBe100() {
        JointVenture x = withSharesAlone(new int[] {5000, 5000, 0, 0, 0});
        x.setPenalty(100);
        Check.equal("to earn", toEarnOf100Cents(x), 100);
    }

    static void thePenaltyCanBe1000() {
        JointVenture x = withSharesAlone(new int[] {5000, 5000, 0, 0, 0});
        x.setPenalty(1000);
        Check.equal("to earn", toEarnOf100Cents(x), 1000);
    }

    static void aPenaltyBelow100IsRefused() {
        Refusals.tooSmall(100, (x, penalty) -> x.setPenalty(penalty));
        Refusals.refused("0", Stage.EMPTY::make, Check.ARGUMENT, x -> x.setPenalty(0));
    }

    static void aPenaltyAbove1000IsRefused() {
        Refusals.tooLarge(1000, (x, penalty) -> x.setPenalty(penalty));
    }

    static void thePenaltyBeforeIsTheLastOneThatWasTaken() {
        JointVenture x = new JointVenture();
        Check.equal("before 100", x.setPenalty(100), 300);
        Check.refused("99", Check.ARGUMENT, () -> x.setPenalty(99));
        Check.equal("before 1000", x.setPenalty(1000), 100);
        Check.refused("1001", Check.ARGUMENT, () -> x.setPenalty(1001));
        Check.equal("before 1000 again", x.setPenalty(1000), 1000);
        Check.equal("before 101", x.setPenalty(101), 1000);
        Check.equal("before 999", x.setPenalty(999), 101);
    }

    static void thePenaltyCountsForWellsThatAreAddedFromNowOn() {
        JointVenture x = withSharesAlone(new int[] {5000, 5000, 0, 0, 0});
        int first = x.addWell();
        x.elect(first, 1, false);
        x.setPenalty(1000);
        x.setPenalty(100);
        Check.equal("a later well", toEarnOf100Cents(x), 100);
        x.setPenalty(1000);
        x.cost(first, 200);
        Check.equal("the well before", x.toEarn(first, 1), 300);
        x.cost(1, 200);
        Check.equal("the well between", x.toEarn(1, 1), 200);
    }

    static void thePenaltyIsTakenWithSixWells() {
        JointVenture x = Stage.FULL.make();
        Check.equal("before 100", x.setPenalty(100), 700);
        Check.equal("before 101", x.setPenalty(101), 100);
    }

    // ---- promise 4: setOverhead

    static void theOverheadCanBe100000() {
        JointVenture x = Ventures.withShares(10000, 0, 0, 0, 0);
        x.setOverhead(100000);
        Check.equal("entered", x.amountOf(x.overhead(0, 1)), 100000);
    }

    static void theOverheadCanBe0() {
        JointVenture x = Ventures.withShares(10000, 0, 0, 0, 0);
        x.setOverhead(5);
        Check.equal("before 0", x.setOverhead(0), 5);
        Refusals.refused("0", () -> {
            JointVenture y = Ventures.withShares(10000, 0, 0, 0, 0);
            y.setOverhead(5);
            y.setOverhead(0);
            return y;
        }, Check.STATE, y -> y.overhead(0, 1));
    }

    static void theOverheadCanBe1() {
        JointVenture x = Ventures.withShares(10000, 0, 0, 0, 0);
        x.setOverhead(1);
        Check.equal("entered", x.amountOf(x.overhead(0, 1)), 1);
    }

    static void anOverheadBelow0IsRefused() {
        Refusals.tooSmall(0, (x, overhead) -> x.setOverhead(overhead));
    }

    static void anOverheadAbove100000IsRefused() {
        Refusals.tooLarge(100000, (x, overhead) -> x.setOverhead(overhead));
    }

    static void theOverheadBeforeIsTheLastOneThatWasTaken() {
        JointVenture x = new JointVenture();
        Check.equal("before 100000", x.setOverhead(100000), 0);
        Check.refused("100001", Check.ARGUMENT, () -> x.setOverhead(100001));
        Check.equal("before 0", x.setOverhead(0), 100000);
        Check.refused("-1", Check.ARGUMENT, () -> x.setOverhead(-1));
        Check.equal("before 0 again", x.setOverhead(0), 0);
        Check.equal("before 99999", x.setOverhead(99999), 0);
        Check.equal("before 1", x.setOverhead(1), 99999);
    }

    static void theOverheadCountsForOverheadsThatAreEnteredFromNowOn() {
        JointVenture x = Ventures.withShares(10000, 0, 0, 0, 0);
        x.setOverhead(10);
        x.overhead(0, 2);
        x.setOverhead(3);
        x.overhead(0, 2);
        Check.equal("entered before", x.amountOf(0), 20);
        Check.equal("entered now", x.amountOf(1), 6);
        Check.equal("charged", x.charged(0, 0), 26);
    }

    // ---- promise 5: addWell

    static void wellsAreNumberedFrom0To5() {
        JointVenture x = new JointVenture();
        for (int well = 0; well < 6; well++) {
            int number = well;
            Check.refused("not there yet", Check.INDEX, () -> x.isIn(number, 0));
            Check.equal("its number", x.addWell(), well);
            Check.equal("partner 0 is in", x.isIn(well, 0), true);
        }
    }

    static void aSeventhWellIsRefused() {
        Refusals.refused("full", Stage.FULL::make, Check.STATE, JointVenture::addWell);
        Refusals.refused("without vouchers", () -> {
            JointVenture x = new JointVenture();
            for (int well = 0; well < 6; well++) {
                x.addWell();
            }
            return x;
        }, Check.STATE, JointVenture::addWell);
    }

    static void aWellCanBeAddedBehindVouchersAndCalls() {
        JointVenture x = Stage.LIVED.make();
        Check.equal("its number", x.addWell(), 3);
        for (int partner = 0; partner < 5; partner++) {
            Check.equal("nothing charged", x.charged(3, partner), 0);
            Check.equal("nothing credited", x.credited(3, partner), 0);
            Check.equal("nothing to earn", x.toEarn(3, partner), 0);
        }
        Check.equal("its partners can elect", x.elect(3, 1, false), true);
        Check.equal("one is out", x.isIn(3, 1), false);
    }

    static void atFirstAllWithAShareAreIn() {
        JointVenture x = Stage.LIVED.make();
        x.addWell();
        boolean[] due = {true, true, false, true, true};
        for (int partner = 0; partner < 5; partner++) {
            Check.equal("in is " + partner, x.isIn(3, partner), due[partner]);
            Check.equal("not back is " + partner, x.backAt(3, partner), JointVenture.NONE);
        }
    }

    // ---- promise 6: elect

    private static JointVenture withFivePartners() {
        return Ventures.withShares(1, 2499, 2500, 2500, 2500);
    }

    static void electOfNoWellIsRefused() {
        Refusals.noSuchWell((x, well) -> x.elect(well, 0, true));
        Refusals.noSuchWell((x, well) -> x.elect(well, 0, false));
    }

    static void electOfNoPartnerIsRefused() {
        Refusals.noSuchPartner((x, partner) -> x.elect(0, partner, true));
        Refusals.noSuchPartner((x, partner) -> x.elect(0, partner, false));
    }

    static void electOfNoPartnerIsRefusedInAWellWithoutVouchers() {
        Refusals.refused("5", Ventures::withOneWell, Check.INDEX, x -> x.elect(0, 5, false));
        Refusals.refused("-1", Ventures::withOneWell, Check.INDEX, x -> x.elect(0, -1, true));
    }

    static void theFirstAndTheLastWellTakeElections() {
        JointVenture x = new JointVenture();
        x.setShares(5000, 0, 0, 0, 5000);
        for (int well = 0; well < 6; well++) {
            x.addWell();
        }
        Check.equal("the well 0", x.elect(0, 4, false), true);
        Check.equal("the well 5", x.elect(5, 0, false), true);
        for (int well = 0; well < 6; well++) {
            Check.equal("0 in " + well, x.isIn(well, 0), well != 5);
            Check.equal("4 in " + well, x.isIn(well, 4), well != 0);
        }
    }

    static void eachPartnerCanGoOut() {
        for (int partner = 0; partner < 5; partner++) {
            JointVenture x = withFivePartners();
            Check.equal("was in", x.elect(0, partner, false), true);
            for (int other = 0; other < 5; other++) {
                Check.equal("in is " + other, x.isIn(0, other), other != partner);
            }
        }
    }

    static void electTellsWhetherThePartnerWasIn() {
        JointVenture x = withFivePartners();
        Check.equal("in, by none", x.elect(0, 1, true), true);
        Check.equal("out, was in", x.elect(0, 1, false), true);
        Check.equal("out, was out", x.elect(0, 1, false), false);
        Check.equal("in, was out", x.elect(0, 1, true), false);
        Check.equal("in, was in", x.elect(0, 1, true), true);
        Check.equal("another one, by none", x.elect(0, 2, false), true);
    }

    static void electBehindACostIsRefused() {
        electIsRefusedBehind(x -> x.cost(0, 1));
    }

    static void electBehindAnIncomeIsRefused() {
        electIsRefusedBehind(x -> x.income(0, 1));
    }

    static void electBehindAnOverheadIsRefused() {
        electIsRefusedBehind(x -> {
            x.setOverhead(1);
            x.overhead(0, 1);
        });
    }

    static void electBehindACostThatWasMovedAwayIsRefused() {
        electIsRefusedBehind(x -> x.move(x.cost(0, 1), 1));
    }

    static void electBehindACostThatWasMovedToTheWellIsRefused() {
        electIsRefusedBehind(x -> x.move(x.cost(1, 1), 0));
    }

    static void electBehindACostThatWasMovedThroughTheWellIsRefused() {
        electIsRefusedBehind(x -> {
            int voucher = x.cost(1, 1);
            x.move(voucher, 0);
            x.move(voucher, 1);
        });
    }

    /** The well 0 of these, of which the partner 4 is out, has or had a voucher; the well 2 never had one. */
    private static void electIsRefusedBehind(Consumer<JointVenture> vouchers) {
        Supplier<JointVenture> setUp = () -> {
            JointVenture x = withFivePartners();
            x.addWell();
            x.addWell();
            x.elect(0, 4, false);
            vouchers.accept(x);
            return x;
        };
        Refusals.refused("going out", setUp, Check.STATE, x -> x.elect(0, 1, false));
        Refusals.refused("staying in", setUp, Check.STATE, x -> x.elect(0, 1, true));
        Refusals.refused("coming in", setUp, Check.STATE, x -> x.elect(0, 4, true));
        Refusals.refused("staying out", setUp, Check.STATE, x -> x.elect(0, 4, false));
        Refusals.refused("no partner 5", setUp, Check.INDEX, x -> x.elect(0, 5, true));
        Refusals.refused("no partner -1", setUp, Check.INDEX, x -> x.elect(0, -1, false));
        Check.equal("another well is free", setUp.get().elect(2, 4, false), true);
    }

    static void electIsTakenBehindRefusedVouchers() {
        JointVenture x = withFivePartners();
        x.addWell();
        x.income(1, 1);
        Check.refused("cost 0", Check.ARGUMENT, () -> x.cost(0, 0));
        Check.refused("income 0", Check.ARGUMENT, () -> x.income(0, 0));
        Check.refused("overhead 0", Check.STATE, () -> x.overhead(0, 1));
        Check.refused("an income to move", Check.STATE, () -> x.move(0, 0));
        Check.equal("going out", x.elect(0, 1, false), true);
    }

    static void electIsTakenBehindACall() {
        JointVenture x = withFivePartners();
        x.call(0, 100);
        x.pay(0, 4);
        x.shareOut(0);
        Check.equal("going out", x.elect(0, 4, false), true);
        Check.equal("asked as before", x.asked(0, 4), 100);
    }

    static void electWithoutAShareIsRefused() {
        for (int partner = 0; partner < 5; partner++) {
            int[] shares = new int[5];
            shares[(partner + 1) % 5] = 4000;
            shares[(partner + 2) % 5] = 6000;
            int without = partner;
            Supplier<JointVenture> setUp = () -> {
                JointVenture x = withSharesAlone(shares);
                x.addWell();
                x.elect(0, (without + 1) % 5, false);
                return x;
            };
            Refusals.refused("out", setUp, Check.STATE, x -> x.elect(0, without, false));
            Refusals.refused("in", setUp, Check.STATE, x -> x.elect(0, without, true));
        }
    }

    static void electWithTheShare1IsTaken() {
        JointVenture x = withFivePartners();
        Check.equal("going out", x.elect(0, 0, false), true);
        Check.equal("is in", x.isIn(0, 0), false);
    }

    static void theOnlyPartnerStaysIn() {
        Refusals.refused("the only one", Ventures::withOneWell, Check.STATE, x -> x.elect(0, 0, false));
        Check.equal("in again", Ventures.withOneWell().elect(0, 0, true), true);
    }

    static void theLastPartnerOfFiveStaysIn() {
        for (int partner = 0; partner < 5; partner++) {
            int last = partner;
            Refusals.refused("the last is " + last, () -> withOneInAlone(last), Check.STATE,
                    x -> x.elect(0, last, false));
            Check.equal("in all the same", withOneInAlone(last).elect(0, last, true), true);
        }
    }

    private static JointVenture withOneInAlone(int partner) {
        JointVenture x = withFivePartners();
        for (int other = 0; other < 5; other++) {
            if (other != partner) {
                x.elect(0, other, false);
            }
        }
        return x;
    }

    static void oneWhoIsOutCanStayOutWhenOneAloneIsIn() {
        JointVenture x = withOneInAlone(3);
        Check.equal("was out", x.elect(0, 0, false), false);
        Check.equal("the one is in", x.isIn(0, 3), true);
    }

    static void theLastPartnerCanGoOutWhenAnotherHasComeIn() {
        JointVenture x = withOneInAlone(0);
        Check.equal("another comes in", x.elect(0, 4, true), false);
        Check.equal("the last goes out", x.elect(0, 0, false), true);
        Check.equal("the weight of the other", x.weight(0, 4), 10000);
    }

    static void partnersWithoutAShareAreNotTheOnesWhoAreIn() {
        Refusals.refused("0 is not in", () -> {
            JointVenture x = Ventures.withShares(0, 5000, 5000, 0, 0);
            x.elect(0, 1, false);
            return x;
        }, Check.STATE, x -> x.elect(0, 2, false));
    }

    static void anElectionCountsFromTheBeginning() {
        JointVenture x = withFivePartners();
        x.elect(0, 0, false);
        x.elect(0, 0, true);
        x.elect(0, 1, false);
        x.cost(0, 10000);
        Check.equal("0 is charged", x.charged(0, 0) > 0, true);
        Check.equal("1 is not charged", x.charged(0, 1), 0);
        Check.equal("1 has to earn", x.toEarn(0, 1), 7497);
        Check.equal("0 has nothing to earn", x.toEarn(0, 0), 0);
    }
}
