/** Promises 1 to 6: a new object, setShares, setPenalty, setOverhead, addWell, elect. */
public final class PartnersAndWellsTest {
    public static void main(String[] args) {
        newObject();
        sharesAreSet();
        sharesAreRefused();
        penaltyIsSet();
        penaltyCountsForLaterWellsAlone();
        overheadIsSet();
        wellsAreAdded();
        partnersElect();
        electionsAreRefused();
        electionsEndWithTheFirstVoucher();
        Check.end();
    }

    private static void newObject() {
        JointVenture x = new JointVenture();
        Check.equal("NONE", JointVenture.NONE, -1);
        Check.equal("vouchers of a new object", x.vouchers(), 0);
        Check.refused("a well of a new object", Check.INDEX, () -> x.isIn(0, 0));
        Check.refused("a call of a new object", Check.INDEX, () -> x.asked(0, 0));
        for (int partner = 0; partner < 5; partner++) {
            Check.equal("paid of a new object", x.paid(partner), 0);
            Check.equal("owes of a new object", x.owes(partner), 0);
            Check.equal("balance of a new object", x.balance(partner), 0);
        }
        Check.equal("first penalty", x.setPenalty(500), 300);
        Check.equal("first overhead", x.setOverhead(7), 0);
        x.addWell();
        Check.equal("first share of partner 0", x.weight(0, 0), 10000);
        for (int partner = 1; partner < 5; partner++) {
            Check.equal("first share of another", x.weight(0, partner), 0);
            Check.equal("another without share is in", x.isIn(0, partner), false);
        }
        JointVenture y = new JointVenture();
        Check.equal("penalty of another object", y.setPenalty(300), 300);
        Check.equal("overhead of another object", y.setOverhead(0), 0);
        Check.refused("a well of another object", Check.INDEX, () -> y.isIn(0, 0));
    }

    private static void sharesAreSet() {
        JointVenture x = new JointVenture();
        x.setShares(0, 0, 0, 0, 10000);
        x.setShares(1, 2, 3, 4, 9990);
        x.addWell();
        int[] due = {1, 2, 3, 4, 9990};
        for (int partner = 0; partner < 5; partner++) {
            Check.equal("weight of share " + partner, x.weight(0, partner), due[partner]);
            Check.equal("in with a small share", x.isIn(0, partner), true);
        }
    }

    private static void sharesAreRefused() {
        JointVenture x = new JointVenture();
        Check.refused("first -1", Check.ARGUMENT, () -> x.setShares(-1, 10000, 1, 0, 0));
        Check.refused("first 10001", Check.ARGUMENT, () -> x.setShares(10001, -1, 0, 0, 0));
        Check.refused("second 10001", Check.ARGUMENT, () -> x.setShares(-1, 10001, 0, 0, 0));
        Check.refused("second -1", Check.ARGUMENT, () -> x.setShares(10000, -1, 1, 0, 0));
        Check.refused("third -1", Check.ARGUMENT, () -> x.setShares(10000, 1, -1, 0, 0));
        Check.refused("fourth -1", Check.ARGUMENT, () -> x.setShares(10000, 1, 0, -1, 0));
        Check.refused("fifth -1", Check.ARGUMENT, () -> x.setShares(10000, 1, 0, 0, -1));
        Check.refused("9999 together", Check.ARGUMENT, () -> x.setShares(2000, 2000, 2000, 2000, 1999));
        Check.refused("10001 together", Check.ARGUMENT, () -> x.setShares(2000, 2000, 2000, 2000, 2001));
        Check.refused("0 together", Check.ARGUMENT, () -> x.setShares(0, 0, 0, 0, 0));
        Check.refused("a sum that wraps around", Check.ARGUMENT,
                () -> x.setShares(Integer.MAX_VALUE, Integer.MAX_VALUE, 10002, 0, 0));
        x.addWell();
        Check.equal("shares as before", x.weight(0, 0), 10000);
        Check.refused("shares with a well", Check.STATE, () -> x.setShares(5000, 5000, 0, 0, 0));
        Check.refused("same shares with a well", Check.STATE, () -> x.setShares(10000, 0, 0, 0, 0));
        Check.refused("argument ahead of state", Check.ARGUMENT, () -> x.setShares(5000, 5000, 1, 0, 0));
    }

    private static void penaltyIsSet() {
        JointVenture x = new JointVenture();
        Check.refused("penalty 99", Check.ARGUMENT, () -> x.setPenalty(99));
        Check.refused("penalty 1001", Check.ARGUMENT, () -> x.setPenalty(1001));
        Check.refused("penalty least int", Check.ARGUMENT, () -> x.setPenalty(Integer.MIN_VALUE));
        Check.equal("penalty 100", x.setPenalty(100), 300);
        Check.equal("penalty 1000", x.setPenalty(1000), 100);
        Check.equal("penalty 1000 again", x.setPenalty(1000), 1000);
        Check.equal("penalty 250", x.setPenalty(250), 1000);
    }

    private static void penaltyCountsForLaterWellsAlone() {
        JointVenture x = new JointVenture();
        x.setShares(5000, 5000, 0, 0, 0);
        x.addWell();
        x.setPenalty(101);
        x.addWell();
        x.setPenalty(1000);
        for (int well = 0; well < 2; well++) {
            x.elect(well, 1, false);
            x.cost(well, 20);
        }
        Check.equal("penalty of the first well", x.toEarn(0, 1), 30);
        Check.equal("penalty of the second well, rounded up", x.toEarn(1, 1), 11);
    }

    private static void overheadIsSet() {
        JointVenture x = new JointVenture();
        Check.refused("overhead -1", Check.ARGUMENT, () -> x.setOverhead(-1));
        Check.refused("overhead 100001", Check.ARGUMENT, () -> x.setOverhead(100001));
        Check.equal("overhead 100000", x.setOverhead(100000), 0);
        Check.equal("overhead 5", x.setOverhead(5), 100000);
        x.addWell();
        x.overhead(0, 2);
        Check.equal("overhead 0", x.setOverhead(0), 5);
        Check.equal("overhead entered before", x.amountOf(0), 10);
    }

    private static void wellsAreAdded() {
        JointVenture x = new JointVenture();
        x.setShares(4000, 3000, 0, 0, 3000);
        for (int well = 0; well < 6; well++) {
            int number = well;
            Check.refused("well not added yet", Check.INDEX, () -> x.isIn(number, 0));
            Check.equal("number of the well", x.addWell(), well);
            Check.equal("in at first", x.isIn(well, 0) && x.isIn(well, 1) && x.isIn(well, 4), true);
            Check.equal("nothing to earn at first", x.toEarn(well, 1), 0);
            Check.equal("not back at first", x.backAt(well, 1), JointVenture.NONE);
        }
        Check.refused("a seventh well", Check.STATE, x::addWell);
        Check.refused("the well 6", Check.INDEX, () -> x.isIn(6, 0));
    }

    private static void partnersElect() {
        JointVenture x = new JointVenture();
        x.setShares(4000, 3000, 0, 0, 3000);
        x.addWell();
        x.addWell();
        Check.equal("out, was in", x.elect(0, 1, false), true);
        Check.equal("out, was out", x.elect(0, 1, false), false);
        Check.equal("is out", x.isIn(0, 1), false);
        Check.equal("the other well", x.isIn(1, 1), true);
        Check.equal("another partner", x.isIn(0, 4), true);
        Check.equal("in, was out", x.elect(0, 1, true), false);
        Check.equal("in, was in", x.elect(0, 1, true), true);
        Check.equal("is in", x.isIn(0, 1), true);
        Check.equal("back is not by election", x.backAt(0, 1), JointVenture.NONE);
    }

    private static void electionsAreRefused() {
        JointVenture x = new JointVenture();
        x.setShares(4000, 3000, 0, 0, 3000);
        x.addWell();
        Check.refused("elect well 1", Check.INDEX, () -> x.elect(1, 0, false));
        Check.refused("elect well -1", Check.INDEX, () -> x.elect(-1, 0, false));
        Check.refused("elect partner 5", Check.INDEX, () -> x.elect(0, 5, false));
        Check.refused("elect partner -1", Check.INDEX, () -> x.elect(0, -1, true));
        Check.refused("elect out without share", Check.STATE, () -> x.elect(0, 2, false));
        Check.refused("elect in without share", Check.STATE, () -> x.elect(0, 3, true));
        x.elect(0, 0, false);
        x.elect(0, 4, false);
        Check.refused("nobody would be in", Check.STATE, () -> x.elect(0, 1, false));
        Check.equal("the last one stays in", x.elect(0, 1, true), true);
        Check.equal("one who is out stays out", x.elect(0, 4, false), false);
        x.elect(0, 4, true);
        Check.equal("now partner 1 can go out", x.elect(0, 1, false), true);
    }

    private static void electionsEndWithTheFirstVoucher() {
        JointVenture x = new JointVenture();
        x.setShares(4000, 3000, 0, 0, 3000);
        for (int well = 0; well < 4; well++) {
            x.addWell();
        }
        x.cost(0, 100);
        Check.refused("elect behind a cost", Check.STATE, () -> x.elect(0, 1, false));
        Check.refused("same election behind a cost", Check.STATE, () -> x.elect(0, 1, true));
        Check.refused("index ahead of state", Check.INDEX, () -> x.elect(0, 5, true));
        Check.equal("the other well is free", x.elect(1, 1, false), true);
        x.move(0, 1);
        Check.refused("the well had a voucher", Check.STATE, () -> x.elect(0, 1, false));
        Check.refused("the well has a moved voucher", Check.STATE, () -> x.elect(1, 1, true));
        x.move(0, 2);
        Check.refused("the well had a moved voucher", Check.STATE, () -> x.elect(1, 1, true));
        x.move(0, 0);
        Check.refused("the well 2 had one too", Check.STATE, () -> x.elect(2, 1, false));
        x.income(3, 1);
        Check.refused("elect behind an income", Check.STATE, () -> x.elect(3, 1, false));
    }
}
