/** The edges of promises 7 to 13, a test for each sentence of the document that names one. */
public final class VouchersEdgesTest {
    public static void main(String[] args) {
        Check.runAll(VouchersEdgesTest.class);
    }

    /** One well, the overhead 7 and this many vouchers of 10 cents. */
    private static JointVenture withVouchers(int count) {
        JointVenture x = Ventures.withShares(6000, 4000, 0, 0, 0);
        x.setOverhead(7);
        for (int voucher = 0; voucher < count; voucher++) {
            x.cost(0, 10);
        }
        return x;
    }

    private static JointVenture withSixWells() {
        JointVenture x = new JointVenture();
        for (int well = 0; well < 6; well++) {
            x.addWell();
        }
        return x;
    }

    // ---- promise 7: cost

    static void aCostCanBe1() {
        JointVenture x = Ventures.withOneWell();
        Check.equal("its number", x.cost(0, 1), 0);
        Check.equal("its amount", x.amountOf(0), 1);
        Check.equal("charged", x.charged(0, 0), 1);
    }

    static void aCostCanBe10000000() {
        JointVenture x = Ventures.withOneWell();
        Check.equal("its number", x.cost(0, 10000000), 0);
        Check.equal("its amount", x.amountOf(0), 10000000);
        Check.equal("charged", x.charged(0, 0), 10000000);
    }

    static void aCostBelow1IsRefused() {
        Refusals.tooSmallOfAWell(1, (x, amount) -> x.cost(0, amount));
    }

    static void aCostAbove10000000IsRefused() {
        Refusals.tooLargeOfAWell(10000000, (x, amount) -> x.cost(0, amount));
    }

    static void aCostOfNoWellIsRefused() {
        Refusals.noSuchWell((x, well) -> x.cost(well, 1));
    }

    static void aCostOfNoWellIsRefusedAheadOfItsAmount() {
        Refusals.noSuchWell((x, well) -> x.cost(well, 0));
        Refusals.noSuchWell((x, well) -> x.cost(well, 10000001));
    }

    static void aWrongCostIsRefusedAheadOfSixtyVouchers() {
        Refusals.refused("0", () -> withVouchers(60), Check.ARGUMENT, x -> x.cost(0, 0));
        Refusals.refused("10000001", () -> withVouchers(60), Check.ARGUMENT, x -> x.cost(0, 10000001));
    }

    static void eachOfSixWellsTakesACost() {
        for (int well = 0; well < 6; well++) {
            JointVenture x = withSixWells();
            Check.equal("its number", x.cost(well, 5), 0);
            for (int other = 0; other < 6; other++) {
                Check.equal("charged in " + other, x.charged(other, 0), other == well ? 5 : 0);
            }
        }
    }

    static void theCost59IsTheLastOne() {
        JointVenture x = withVouchers(59);
        Check.equal("the last number", x.cost(0, 3), 59);
        Check.equal("its amount", x.amountOf(59), 3);
        Check.equal("charged", x.charged(0, 0), 59 * 6 + 2);
    }

    static void aCostBehindSixtyVouchersIsRefused() {
        Refusals.refused("60 vouchers", () -> withVouchers(60), Check.STATE, x -> x.cost(0, 1));
        Refusals.refused("in each well", Stage.FULL::make, Check.STATE, x -> x.cost(5, 10000000));
    }

    // ---- promise 8: overhead

    static void anOverheadCanBeOf1Month() {
        JointVenture x = withVouchers(0);
        Check.equal("its number", x.overhead(0, 1), 0);
        Check.equal("its amount", x.amountOf(0), 7);
    }

    static void anOverheadCanBeOf24Months() {
        JointVenture x = withVouchers(0);
        Check.equal("its number", x.overhead(0, 24), 0);
        Check.equal("its amount", x.amountOf(0), 168);
    }

    static void theGreatestOverheadIs2400000() {
        JointVenture x = withVouchers(0);
        x.setOverhead(100000);
        x.overhead(0, 24);
        Check.equal("its amount", x.amountOf(0), 2400000);
        Check.equal("charged", x.charged(0, 0), 1440000);
    }

    static void anOverheadOfLessThan1MonthIsRefused() {
        Refusals.tooSmallOfAWell(1, (x, months) -> x.overhead(0, months));
    }

    static void anOverheadOfMoreThan24MonthsIsRefused() {
        Refusals.tooLargeOfAWell(24, (x, months) -> x.overhead(0, months));
    }

    static void anOverheadOfNoWellIsRefused() {
        Refusals.noSuchWell((x, well) -> x.overhead(well, 1));
    }

    static void anOverheadOfNoWellIsRefusedAheadOfItsMonths() {
        Refusals.noSuchWell((x, well) -> x.overhead(well, 0));
        Refusals.noSuchWell((x, well) -> x.overhead(well, 25));
    }

    static void anOverheadOfNoWellIsRefusedAheadOfTheOverhead0() {
        Refusals.refused("the well 1", Ventures::withOneWell, Check.INDEX, x -> x.overhead(1, 1));
    }

    static void wrongMonthsAreRefusedAheadOfTheOverhead0() {
        Refusals.refused("0 months", Ventures::withOneWell, Check.ARGUMENT, x -> x.overhead(0, 0));
        Refusals.refused("25 months", Ventures::withOneWell, Check.ARGUMENT, x -> x.overhead(0, 25));
    }

    static void wrongMonthsAreRefusedAheadOfSixtyVouchers() {
        Refusals.refused("0 months", () -> withVouchers(60), Check.ARGUMENT, x -> x.overhead(0, 0));
        Refusals.refused("25 months", () -> withVouchers(60), Check.ARGUMENT, x -> x.overhead(0, 25));
    }

    static void eachOfSixWellsTakesAnOverhead() {
        for (int well = 0; well < 6; well++) {
            JointVenture x = withSixWells();
            x.setOverhead(1);
            Check.equal("its number", x.overhead(well, 5), 0);
            for (int other = 0; other < 6; other++) {
                Check.equal("charged in " + other, x.charged(other, 0), other == well ? 5 : 0);
            }
        }
    }

    static void theOverhead59IsTheLastOne() {
        JointVenture x = withVouchers(59);
        Check.equal("the last number", x.overhead(0, 2), 59);
        Check.equal("its amount", x.amountOf(59), 14);
    }

    static void anOverheadBehindSixtyVouchersIsRefused() {
        Refusals.refused("60 vouchers", () -> withVouchers(60), Check.STATE, x -> x.overhead(0, 1));
    }

    static void anOverheadOf0IsRefused() {
        Refusals.refused("by none", Ventures::withOneWell, Check.STATE, x -> x.overhead(0, 1));
        Refusals.refused("set so", () -> {
            JointVenture x = withVouchers(3);
            x.setOverhead(0);
            return x;
        }, Check.STATE, x -> x.overhead(0, 24));
    }

    static void anOverheadOf0BehindSixtyVouchersIsRefused() {
        Refusals.refused("both", () -> {
            JointVenture x = withVouchers(60);
            x.setOverhead(0);
            return x;
        }, Check.STATE, x -> x.overhead(0, 1));
    }

    // ---- promise 9: income

    static void anIncomeCanBe1() {
        JointVenture x = Ventures.withOneWell();
        Check.equal("its number", x.income(0, 1), 0);
        Check.equal("its amount", x.amountOf(0), -1);
        Check.equal("credited", x.credited(0, 0), 1);
    }

    static void anIncomeCanBe10000000() {
        JointVenture x = Ventures.withOneWell();
        Check.equal("its number", x.income(0, 10000000), 0);
        Check.equal("its amount", x.amountOf(0), -10000000);
        Check.equal("credited", x.credited(0, 0), 10000000);
    }

    static void anIncomeBelow1IsRefused() {
        Refusals.tooSmallOfAWell(1, (x, amount) -> x.income(0, amount));
    }

    static void anIncomeAbove10000000IsRefused() {
        Refusals.tooLargeOfAWell(10000000, (x, amount) -> x.income(0, amount));
    }

    static void anIncomeOfNoWellIsRefused() {
        Refusals.noSuchWell((x, well) -> x.income(well, 1));
    }

    static void anIncomeOfNoWellIsRefusedAheadOfItsAmount() {
        Refusals.noSuchWell((x, well) -> x.income(well, 0));
        Refusals.noSuchWell((x, well) -> x.income(well, 10000001));
    }

    static void aWrongIncomeIsRefusedAheadOfSixtyVouchers() {
        Refusals.refused("0", () -> withVouchers(60), Check.ARGUMENT, x -> x.income(0, 0));
        Refusals.refused("10000001", () -> withVouchers(60), Check.ARGUMENT, x -> x.income(0, 10000001));
    }

    static void eachOfSixWellsTakesAnIncome() {
        for (int well = 0; well < 6; well++) {
            JointVenture x = withSixWells();
            Check.equal("its number", x.income(well, 5), 0);
            for (int other = 0; other < 6; other++) {
                Check.equal("credited in " + other, x.credited(other, 0), other == well ? 5 : 0);
            }
        }
    }

    static void theIncome59IsTheLastOne() {
        JointVenture x = withVouchers(59);
        Check.equal("the last number", x.income(0, 10), 59);
        Check.equal("its amount", x.amountOf(59), -10);
        Check.equal("credited", x.credited(0, 1), 4);
    }

    static void anIncomeBehindSixtyVouchersIsRefused() {
        Refusals.refused("60 vouchers", () -> withVouchers(60), Check.STATE, x -> x.income(0, 1));
        Refusals.refused("in each well", Stage.FULL::make, Check.STATE, x -> x.income(5, 10000000));
    }

    // ---- promise 10: move

    /** Two wells; the voucher 0 is a cost of the well 0, the voucher 1 an income of the well 0. */
    private static JointVenture withCostAndIncome() {
        JointVenture x = Ventures.withShares(6000, 4000, 0, 0, 0);
        x.addWell();
        x.cost(0, 100);
        x.income(0, 50);
        return x;
    }

    static void aMoveOfNoVoucherIsRefused() {
        Refusals.noSuchVoucher((x, voucher) -> x.move(voucher, 0));
    }

    static void aMoveToNoWellIsRefused() {
        Refusals.noSuchWell((x, well) -> x.move(1, well));
    }

    static void aMoveOfNoVoucherToNoWellIsRefused() {
        Refusals.noSuchVoucher((x, voucher) -> x.move(voucher, -1));
        Refusals.noSuchVoucher((x, voucher) -> x.move(voucher, 6));
    }

    static void aMoveOfAnIncomeToNoWellIsRefusedForTheWell() {
        Refusals.refused("the well 2", VouchersEdgesTest::withCostAndIncome, Check.INDEX, x -> x.move(1, 2));
        Refusals.refused("the well -1", VouchersEdgesTest::withCostAndIncome, Check.INDEX, x -> x.move(1, -1));
    }

    static void aMoveOfAnIncomeIsRefused() {
        Refusals.refused("to another well", VouchersEdgesTest::withCostAndIncome, Check.STATE, x -> x.move(1, 1));
    }

    static void anIncomeCanNotBeLeftInItsOwnWellByAMove() {
        Refusals.refused("to its own well", VouchersEdgesTest::withCostAndIncome, Check.STATE, x -> x.move(1, 0));
    }

    static void aMoveOfAnIncomeOf1CentIsRefused() {
        Refusals.refused("1 cent", () -> {
            JointVenture x = withSixWells();
            x.income(0, 1);
            return x;
        }, Check.STATE, x -> x.move(0, 1));
    }

    static void aCostOf1CentCanBeMoved() {
        JointVenture x = withSixWells();
        x.cost(0, 1);
        Check.equal("the well before", x.move(0, 5), 0);
        Check.equal("charged in 5", x.charged(5, 0), 1);
        Check.equal("charged in 0", x.charged(0, 0), 0);
    }

    static void anOverheadCanBeMoved() {
        JointVenture x = withSixWells();
        x.setOverhead(3);
        x.overhead(0, 2);
        Check.equal("the well before", x.move(0, 1), 0);
        Check.equal("charged in 1", x.charged(1, 0), 6);
    }

    static void theGreatestCostCanBeMoved() {
        JointVenture x = withSixWells();
        x.cost(5, 10000000);
        Check.equal("the well before", x.move(0, 0), 5);
        Check.equal("charged in 0", x.charged(0, 0), 10000000);
    }

    static void aCostLeftInItsOwnWellChangesNothing() {
        for (int part = 0; part < State.PARTS; part++) {
            JointVenture x = Stage.LIVED.make();
            Check.equal("the voucher 0", x.move(0, 0), 0);
            Check.equal("the voucher 3, which was moved", x.move(3, 1), 1);
            Check.equal("all as before", State.part(part, x), State.part(part, Stage.LIVED.make()));
        }
    }

    static void aCostMovedThereAndBackCountsAsBefore() {
        // What comes next is not as before, as the well 1 had a voucher now.
        for (int part = 0; part < State.QUESTIONS; part++) {
            JointVenture x = withCostAndIncome();
            Check.equal("there", x.move(0, 1), 0);
            Check.equal("back", x.move(0, 0), 1);
            Check.equal("all as before", State.part(part, x), State.part(part, withCostAndIncome()));
        }
    }

    static void theVouchers0And59CanBeMoved() {
        JointVenture x = withVouchers(60);
        x.addWell();
        Check.equal("the well of 0 before", x.move(0, 1), 0);
        Check.equal("the well of 59 before", x.move(59, 1), 0);
        Check.equal("the well of 0", x.wellOf(0), 1);
        Check.equal("the well of 59", x.wellOf(59), 1);
        Check.equal("the well of 1", x.wellOf(1), 0);
        Check.equal("the well of 58", x.wellOf(58), 0);
        Check.equal("vouchers", x.vouchers(), 60);
        Check.equal("charged in 1", x.charged(1, 0), 12);
        Check.equal("charged in 0", x.charged(0, 0), 58 * 6);
    }

    static void sixtyCostsCanBeMovedToOneWell() {
        JointVenture x = withVouchers(60);
        x.addWell();
        for (int voucher = 0; voucher < 60; voucher++) {
            x.move(voucher, 1);
        }
        Check.equal("charged in 0", x.charged(0, 0), 0);
        Check.equal("charged in 1", x.charged(1, 0), 360);
    }

    // ---- promise 11: vouchers

    static void vouchersAre0AtFirst() {
        Check.equal("none", new JointVenture().vouchers(), 0);
    }

    static void vouchersAre60AtMost() {
        for (int count = 0; count <= 60; count++) {
            Check.equal("vouchers", withVouchers(count).vouchers(), count);
        }
        JointVenture x = withVouchers(60);
        Check.refused("one more", Check.STATE, () -> x.cost(0, 1));
        Check.equal("60 still", x.vouchers(), 60);
    }

    static void vouchersCountCostsOverheadsAndIncomes() {
        JointVenture x = withVouchers(1);
        x.income(0, 1);
        Check.equal("with an income", x.vouchers(), 2);
        x.overhead(0, 1);
        Check.equal("with an overhead", x.vouchers(), 3);
    }

    static void vouchersAreNoMoreByMovesAndCalls() {
        JointVenture x = withVouchers(2);
        x.move(0, 0);
        x.call(0, 100);
        x.pay(0, 0);
        x.shareOut(0);
        Check.equal("2 still", x.vouchers(), 2);
    }

    // ---- promise 12: wellOf

    static void theWellOfNoVoucherIsRefused() {
        Refusals.noSuchVoucher((x, voucher) -> x.wellOf(voucher));
    }

    static void theWellOfEachVoucherIsTold() {
        Refusals.takesEachVoucher((x, voucher) -> x.wellOf(voucher));
        JointVenture x = withSixWells();
        for (int voucher = 0; voucher < 60; voucher++) {
            x.cost(voucher % 6, 1 + voucher);
        }
        for (int voucher = 0; voucher < 60; voucher++) {
            Check.equal("the well of " + voucher, x.wellOf(voucher), voucher % 6);
        }
    }

    static void theWellOfAMovedVoucherIsTheOneThatItIsInNow() {
        JointVenture x = withSixWells();
        x.cost(0, 1);
        x.cost(0, 1);
        x.move(1, 5);
        Check.equal("moved", x.wellOf(1), 5);
        Check.equal("not moved", x.wellOf(0), 0);
        x.move(1, 0);
        Check.equal("moved back", x.wellOf(1), 0);
    }

    // ---- promise 13: amountOf

    static void theAmountOfNoVoucherIsRefused() {
        Refusals.noSuchVoucher((x, voucher) -> x.amountOf(voucher));
    }

    static void theAmountOfEachVoucherIsTold() {
        Refusals.takesEachVoucher((x, voucher) -> x.amountOf(voucher));
        JointVenture x = withSixWells();
        for (int voucher = 0; voucher < 60; voucher++) {
            if (voucher % 2 == 0) {
                x.cost(0, 1 + voucher);
            } else {
                x.income(0, 1 + voucher);
            }
        }
        for (int voucher = 0; voucher < 60; voucher++) {
            Check.equal("of " + voucher, x.amountOf(voucher), voucher % 2 == 0 ? 1 + voucher : -1 - voucher);
        }
    }

    static void theAmountOfAMovedVoucherIsAsBefore() {
        JointVenture x = withSixWells();
        x.cost(0, 123);
        x.move(0, 3);
        Check.equal("moved", x.amountOf(0), 123);
    }

    static void noVoucherIsThereBehindARefusedOne() {
        JointVenture x = Ventures.withOneWell();
        Check.refused("cost 0", Check.ARGUMENT, () -> x.cost(0, 0));
        Check.refused("the amount of 0", Check.INDEX, () -> x.amountOf(0));
        Check.refused("the well of 0", Check.INDEX, () -> x.wellOf(0));
        Check.equal("the next one", x.cost(0, 4), 0);
    }
}
