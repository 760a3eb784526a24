/** Promise 9: part. */
public final class PartTest {
    public static void main(String[] args) {
        ofOneLong();
        ofPowers();
        behindTheEnd();
        refusesBelowZero();
        forgetsLongerNumbers();
        Checks.end("PartTest");
    }

    private static void dueParts(String what, EquationDesk desk, boolean below, int... parts) {
        for (int k = 0; k < parts.length; k++) {
            Checks.due(what + ", part " + k, desk.part(below, k), parts[k]);
        }
        Checks.due(what + ", behind its end", desk.part(below, parts.length), 0);
    }

    private static void ofOneLong() {
        EquationDesk desk = new EquationDesk();
        dueParts("0", desk, false);
        dueParts("1", desk, true, 1);
        Checks.fill(desk, Checks.row(Long.MIN_VALUE, Long.MAX_VALUE));
        desk.solve();
        desk.unknown(0);
        dueParts("2^63 - 1", desk, false, Integer.MAX_VALUE, Integer.MAX_VALUE, 1);
        dueParts("2^63", desk, true, 0, 0, 2);
        Checks.fill(desk, Checks.row(1, -(5L + (6L << 31) + (1L << 62))));
        desk.solve();
        desk.unknown(0);
        dueParts("a number below 0, without its sign", desk, false, 5, 6, 1);
    }

    private static void ofPowers() {
        EquationDesk desk = new EquationDesk();
        desk.size(12);
        for (int i = 0; i < 12; i++) {
            desk.put(i, i, 1L << 62);
        }
        desk.solve();
        desk.determinant();
        for (int k = 0; k < 30; k++) {
            Checks.due("part " + k + " of 2^744", desk.part(false, k), k == 24 ? 1 : 0);
        }
    }

    private static void behindTheEnd() {
        EquationDesk desk = Checks.desk(Checks.row(7, -3));
        desk.solve();
        desk.unknown(0);
        for (int k : new int[] {1, 2, 25, 26, 27, 52, 53, 69273666, 138547333, 1 << 30, Integer.MAX_VALUE}) {
            Checks.due("part(false, " + k + ")", desk.part(false, k), 0);
            Checks.due("part(true, " + k + ")", desk.part(true, k), 0);
        }
    }

    private static void refusesBelowZero() {
        EquationDesk desk = Checks.desk(Checks.row(7, -3));
        desk.solve();
        desk.unknown(0);
        for (int k : new int[] {-1, -2, -31, Integer.MIN_VALUE}) {
            Checks.dueThrow("part(false, " + k + ")", Checks.INDEX, () -> desk.part(false, k));
            Checks.dueThrow("part(true, " + k + ")", Checks.INDEX, () -> desk.part(true, k));
        }
        Checks.dueResult("the result behind a refused part", desk, -3, 7);
        Checks.due("determinant() behind a refused part", desk.determinant(), 1);
    }

    private static void forgetsLongerNumbers() {
        EquationDesk desk = Checks.desk(Checks.row(Long.MAX_VALUE, 0, 1), Checks.row(0, Long.MAX_VALUE, 0));
        desk.solve();
        desk.determinant();
        desk.unknown(1);
        dueParts("0 behind a longer number", desk, false, 0, 0, 0, 0, 0);
        dueParts("1 behind a longer number", desk, true, 1, 0, 0, 0, 0);
    }
}
