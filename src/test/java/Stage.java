/** Ventures of three sizes: none of anything, some of it, and as many as there can be. */
enum Stage {
    EMPTY(0, 0, 0),
    LIVED(3, 5, 3),
    FULL(6, 60, 20);

    final int wells;
    final int vouchers;
    final int calls;

    Stage(int wells, int vouchers, int calls) {
        this.wells = wells;
        this.vouchers = vouchers;
        this.calls = calls;
    }

    /** Always the same venture of this size, made anew. */
    JointVenture make() {
        switch (this) {
            case EMPTY: return new JointVenture();
            case LIVED: return lived();
            default: return full();
        }
    }

    /** Each well has somebody out; the well 2 has no voucher; the call 2 is shared out. */
    private static JointVenture lived() {
        JointVenture x = new JointVenture();
        x.setShares(5000, 3000, 0, 1500, 500);
        x.setPenalty(250);
        x.setOverhead(40);
        x.addWell();
        x.setPenalty(150);
        x.addWell();
        x.addWell();
        x.elect(0, 1, false);
        x.elect(1, 4, false);
        x.elect(2, 3, false);
        x.cost(0, 1003);
        x.overhead(1, 3);
        x.income(0, 10);
        x.cost(0, 77);
        x.income(1, 500);
        x.move(3, 1);
        x.call(0, 101);
        x.call(1, 1000);
        x.pay(1, 0);
        x.call(0, 999);
        x.pay(2, 0);
        x.shareOut(2);
        // No well has this one, so that it is seen when a well takes it.
        x.setPenalty(700);
        return x;
    }

    /** The well 5 has no voucher; the calls 0 to 9 are paid in part, the calls 0 to 3 are shared out. */
    private static JointVenture full() {
        JointVenture x = new JointVenture();
        x.setShares(4000, 2500, 0, 2000, 1500);
        x.setOverhead(100000);
        for (int well = 0; well < 6; well++) {
            x.setPenalty(100 + 180 * well);
            x.addWell();
        }
        x.elect(0, 1, false);
        x.elect(1, 3, false);
        x.elect(2, 0, false);
        x.elect(3, 4, false);
        x.elect(5, 1, false);
        for (int voucher = 0; voucher < 60; voucher++) {
            enterOneOf60(x, voucher);
        }
        x.move(0, 4);
        x.move(1, 0);
        for (int call = 0; call < 20; call++) {
            x.call(call % 6, 1000 + call);
        }
        for (int call = 0; call < 10; call++) {
            x.pay(call, call % 6 == 2 ? 3 : 0);
        }
        for (int call = 0; call < 4; call++) {
            x.shareOut(call);
        }
        x.setPenalty(700);
        return x;
    }

    private static void enterOneOf60(JointVenture x, int voucher) {
        int well = voucher % 5;
        if (voucher % 4 == 3) {
            x.income(well, 1000 + voucher);
        } else if (voucher % 7 == 0) {
            x.overhead(well, 24);
        } else {
            x.cost(well, 100 * voucher + 1);
        }
    }
}
