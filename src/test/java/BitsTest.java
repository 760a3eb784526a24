/** Promise 8: bits. */
public final class BitsTest {
    public static void main(String[] args) {
        ofZero();
        ofPowersOfTwo();
        overPowersOfTwo();
        ofProducts();
        staysWhenNotSolved();
        Checks.end("BitsTest");
    }

    private static void ofZero() {
        EquationDesk desk = new EquationDesk();
        Checks.due("bits(false) of 0", desk.bits(false), 0);
        Checks.due("bits(true) of 0", desk.bits(true), 1);
        Checks.fill(desk, Checks.row(8, 0));
        desk.solve();
        desk.unknown(0);
        Checks.due("bits(false) of 0 / 8", desk.bits(false), 0);
        Checks.due("bits(true) of 0 / 8", desk.bits(true), 1);
    }

    private static void ofPowersOfTwo() {
        EquationDesk desk = new EquationDesk();
        desk.size(1);
        for (int b = 0; b < 64; b++) {
            desk.put(0, 0, 1L);
            desk.put(0, 1, 1L << b);
            desk.solve();
            desk.unknown(0);
            Checks.due("bits(false) of 2^" + b, desk.bits(false), b + 1);
            Checks.due("bits(true) of 2^" + b, desk.bits(true), 1);
        }
    }

    private static void overPowersOfTwo() {
        EquationDesk desk = new EquationDesk();
        desk.size(1);
        for (int b = 1; b < 64; b++) {
            desk.put(0, 0, 1L << b);
            desk.put(0, 1, (1L << b) - 1);
            desk.solve();
            desk.unknown(0);
            Checks.due("bits(false) of 2^" + b + " - 1", desk.bits(false), b);
            Checks.due("bits(true) over 2^" + b, desk.bits(true), b + 1);
        }
    }

    /** 2^62 in each row of the diagonal: limbs that are full to their last bit, and one bit more. */
    private static void ofProducts() {
        EquationDesk desk = new EquationDesk();
        for (int n = 1; n <= 12; n++) {
            desk.size(n);
            for (int i = 0; i < n; i++) {
                desk.put(i, i, 1L << 62);
            }
            desk.put(0, n, -3L);
            desk.solve();
            desk.determinant();
            Checks.due("bits(false) of 2^" + 62 * n, desk.bits(false), 62 * n + 1);
            Checks.due("bits(true) of 2^" + 62 * n, desk.bits(true), 1);
            desk.unknown(0);
            Checks.due("bits(false) of -3 / 2^62", desk.bits(false), 2);
            Checks.due("bits(true) of -3 / 2^62", desk.bits(true), 63);
        }
    }

    private static void staysWhenNotSolved() {
        EquationDesk desk = Checks.desk(Checks.row(9, 5));
        desk.solve();
        desk.unknown(0);
        desk.size(0);
        Checks.due("bits(false) behind size(0)", desk.bits(false), 3);
        Checks.due("bits(true) behind size(0)", desk.bits(true), 4);
    }
}
