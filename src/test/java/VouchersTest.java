/** Promises 7 to 13: cost, overhead, income, move, vouchers, wellOf, amountOf. */
public final class VouchersTest {
    public static void main(String[] args) {
        vouchersAreEntered();
        amountsAreRefused();
        overheadsAreEntered();
        overheadsAreRefused();
        thereAreSixtyVouchers();
        costsAreMoved();
        movesAreRefused();
        aMovedCostCountsFromTheBeginning();
        aMovedCostTakesThePenaltyOfItsWell();
        aMoveTakesAWayBackAgain();
        Check.end();
    }

    private static JointVenture withWells(int count) {
        JointVenture x = new JointVenture();
        x.setShares(5000, 3000, 2000, 0, 0);
        for (int well = 0; well < count; well++) {
            x.addWell();
        }
        return x;
    }

    private static void vouchersAreEntered() {
        JointVenture x = withWells(2);
        Check.equal("no voucher", x.vouchers(), 0);
        Check.equal("first cost", x.cost(1, 1), 0);
        Check.equal("first income", x.income(0, 10000000), 1);
        Check.equal("second cost", x.cost(0, 10000000), 2);
        Check.equal("vouchers", x.vouchers(), 3);
        Check.equal("well of 0", x.wellOf(0), 1);
        Check.equal("well of 1", x.wellOf(1), 0);
        Check.equal("amount of the cost", x.amountOf(0), 1);
        Check.equal("amount of the income", x.amountOf(1), -10000000);
        Check.equal("amount of the great cost", x.amountOf(2), 10000000);
        Check.refused("well of -1", Check.INDEX, () -> x.wellOf(-1));
        Check.refused("well of 3", Check.INDEX, () -> x.wellOf(3));
        Check.refused("amount of -1", Check.INDEX, () -> x.amountOf(-1));
        Check.refused("amount of 3", Check.INDEX, () -> x.amountOf(3));
        Check.refused("amount of 60", Check.INDEX, () -> x.amountOf(60));
    }

    private static void amountsAreRefused() {
        JointVenture x = withWells(2);
        int[] wrongWells = {-1, 2, 6, Integer.MAX_VALUE, Integer.MIN_VALUE};
        for (int well : wrongWells) {
            Check.refused("cost of well " + well, Check.INDEX, () -> x.cost(well, 0));
            Check.refused("income of well " + well, Check.INDEX, () -> x.income(well, 0));
        }
        int[] wrongAmounts = {0, -1, 10000001, Integer.MAX_VALUE, Integer.MIN_VALUE};
        for (int amount : wrongAmounts) {
            Check.refused("cost " + amount, Check.ARGUMENT, () -> x.cost(0, amount));
            Check.refused("income " + amount, Check.ARGUMENT, () -> x.income(0, amount));
        }
        Check.equal("no voucher came", x.vouchers(), 0);
        Check.equal("a refused cost is no voucher of the well", x.elect(0, 1, false), true);
    }

    private static void overheadsAreEntered() {
        JointVenture x = withWells(2);
        x.setOverhead(100000);
        Check.equal("overhead of 24 months", x.overhead(0, 24), 0);
        Check.equal("its amount", x.amountOf(0), 2400000);
        Check.equal("it is a cost", x.charged(0, 0), 1200000);
        x.setOverhead(1);
        Check.equal("overhead of 1 month", x.overhead(1, 1), 1);
        Check.equal("its amount", x.amountOf(1), 1);
        Check.equal("it can be moved", x.move(1, 0), 1);
    }

    private static void overheadsAreRefused() {
        JointVenture x = withWells(1);
        Check.refused("overhead 0", Check.STATE, () -> x.overhead(0, 1));
        Check.refused("months ahead of overhead 0", Check.ARGUMENT, () -> x.overhead(0, 0));
        Check.refused("well ahead of months", Check.INDEX, () -> x.overhead(1, 25));
        x.setOverhead(10);
        Check.refused("0 months", Check.ARGUMENT, () -> x.overhead(0, 0));
        Check.refused("25 months", Check.ARGUMENT, () -> x.overhead(0, 25));
        Check.refused("well -1", Check.INDEX, () -> x.overhead(-1, 1));
    }

    private static void thereAreSixtyVouchers() {
        JointVenture x = withWells(2);
        x.setOverhead(3);
        for (int voucher = 0; voucher < 60; voucher++) {
            int number = voucher % 3 == 0 ? x.cost(0, 10) : voucher % 3 == 1 ? x.income(0, 20) : x.overhead(0, 2);
            Check.equal("number of the voucher", number, voucher);
        }
        Check.equal("60 vouchers", x.vouchers(), 60);
        Check.refused("cost behind 60", Check.STATE, () -> x.cost(1, 1));
        Check.refused("income behind 60", Check.STATE, () -> x.income(1, 1));
        Check.refused("overhead behind 60", Check.STATE, () -> x.overhead(1, 1));
        Check.refused("amount ahead of state", Check.ARGUMENT, () -> x.cost(0, 0));
        Check.refused("amount ahead of state", Check.ARGUMENT, () -> x.income(0, 0));
        Check.refused("months ahead of state", Check.ARGUMENT, () -> x.overhead(0, 0));
        Check.refused("well ahead of state", Check.INDEX, () -> x.income(2, 1));
        Check.equal("the last voucher can be moved", x.move(59, 1), 0);
        Check.equal("a refused cost left the well free", x.wellOf(59), 1);
    }

    private static void costsAreMoved() {
        JointVenture x = withWells(3);
        x.cost(0, 100);
        x.cost(0, 7);
        Check.equal("moved from 0", x.move(0, 2), 0);
        Check.equal("now of 2", x.wellOf(0), 2);
        Check.equal("amount as before", x.amountOf(0), 100);
        Check.equal("charged of 0", x.charged(0, 0), 4);
        Check.equal("charged of 2", x.charged(2, 0), 50);
        Check.equal("left in its own", x.move(0, 2), 2);
        Check.equal("charged of 2 again", x.charged(2, 0), 50);
        Check.equal("moved back", x.move(0, 0), 2);
        Check.equal("charged of 2 at last", x.charged(2, 0), 0);
        Check.equal("charged of 0 at last", x.charged(0, 0), 54);
    }

    private static void movesAreRefused() {
        JointVenture x = withWells(2);
        x.cost(0, 100);
        x.income(0, 100);
        Check.refused("move -1", Check.INDEX, () -> x.move(-1, 0));
        Check.refused("move 2", Check.INDEX, () -> x.move(2, 0));
        Check.refused("move to well -1", Check.INDEX, () -> x.move(0, -1));
        Check.refused("move to well 2", Check.INDEX, () -> x.move(0, 2));
        Check.refused("index ahead of income", Check.INDEX, () -> x.move(1, 2));
        Check.refused("move an income", Check.STATE, () -> x.move(1, 1));
        Check.refused("leave an income", Check.STATE, () -> x.move(1, 0));
        Check.equal("a refused move left the well free", x.elect(1, 0, false), true);
    }

    private static void aMovedCostCountsFromTheBeginning() {
        JointVenture x = withWells(2);
        x.elect(0, 1, false);
        x.cost(0, 1000);
        x.income(0, 1000);
        x.cost(1, 1000);
        x.income(0, 2000);
        Check.equal("to earn is 900, both own parts taken", x.toEarn(0, 1), 0);
        Check.equal("back with the second income", x.backAt(0, 1), 3);
        x.move(0, 1);
        Check.equal("back with the first income now", x.backAt(0, 1), 1);
        Check.equal("the whole own parts", x.credited(0, 1), 900);
        Check.equal("nothing charged in 0", x.charged(0, 0), 0);
        x.move(2, 0);
        Check.equal("a later cost finds the partner in", x.charged(0, 1), 300);
        Check.equal("and is not to be earned", x.toEarn(0, 1), 0);
        x.move(2, 1);
        x.move(0, 0);
        Check.equal("as at first", x.backAt(0, 1), 3);
        Check.equal("credited as at first", x.credited(0, 1), 0);
        x.move(2, 0);
        Check.equal("with two costs out still", x.isIn(0, 1), false);
        Check.equal("with two costs to earn", x.toEarn(0, 1), 900);
        Check.equal("with two costs not back", x.backAt(0, 1), JointVenture.NONE);
    }

    private static void aMovedCostTakesThePenaltyOfItsWell() {
        JointVenture x = withWells(1);
        x.setPenalty(100);
        x.addWell();
        x.elect(0, 1, false);
        x.elect(1, 1, false);
        x.cost(0, 100);
        Check.equal("to earn by 300", x.toEarn(0, 1), 90);
        x.move(0, 1);
        Check.equal("nothing in the old well", x.toEarn(0, 1), 0);
        Check.equal("out of the old well all the same", x.isIn(0, 1), false);
        Check.equal("to earn by 100", x.toEarn(1, 1), 30);
    }

    private static void aMoveTakesAWayBackAgain() {
        JointVenture x = withWells(2);
        x.elect(0, 0, false);
        x.elect(0, 2, false);
        x.cost(1, 10000);
        x.income(0, 100);
        Check.equal("0 is in", x.isIn(0, 0), true);
        Check.equal("2 is back", x.backAt(0, 2), 1);
        x.move(0, 0);
        Check.equal("0 is out", x.isIn(0, 0), false);
        Check.equal("2 is out", x.isIn(0, 2), false);
        Check.equal("2 is not back", x.backAt(0, 2), JointVenture.NONE);
        Check.equal("0 has to earn", x.toEarn(0, 0), 14950);
        Check.equal("1 is credited all", x.credited(0, 1), 100);
        Check.equal("1 is charged all", x.charged(0, 1), 10000);
    }
}
