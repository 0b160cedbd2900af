/** Ventures that several tests begin with. */
final class Ventures {
    private Ventures() {
    }

    /** A venture with these shares and one well. */
    static JointVenture withShares(int first, int second, int third, int fourth, int fifth) {
        JointVenture x = new JointVenture();
        x.setShares(first, second, third, fourth, fifth);
        x.addWell();
        return x;
    }

    /** A venture with the first shares and one well. */
    static JointVenture withOneWell() {
        JointVenture x = new JointVenture();
        x.addWell();
        return x;
    }
}
