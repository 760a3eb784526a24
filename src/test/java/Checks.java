import java.math.BigInteger;

/** What the tests share: counting wrong answers, and reading THE RESULT of a desk. */
final class Checks {
    static final String NOTHING = "nothing";
    static final String STATE = "java.lang.IllegalStateException";
    static final String ARGUMENT = "java.lang.IllegalArgumentException";
    static final String INDEX = "java.lang.IndexOutOfBoundsException";

    private static int wrong = 0;

    private Checks() {
    }

    static void due(String what, Object got, Object want) {
        if (!got.equals(want)) {
            wrong++;
            System.out.println(what + " answered " + got + ", due is " + want);
        }
    }

    /** The class itself is looked at: a subclass, thrown by an array, is wrong too. */
    static void dueThrow(String what, String want, Runnable call) {
        String got = NOTHING;
        try {
            call.run();
        } catch (RuntimeException e) {
            got = e.getClass().getName();
        }
        due(what + " throws", got, want);
    }

    static int dueResult(String what, EquationDesk desk, long above, long below) {
        return dueResult(what, desk, BigInteger.valueOf(above), BigInteger.valueOf(below));
    }

    /** THE RESULT without its sign; answers how many calls it took, as a desk has only 512. */
    static int dueResult(String what, EquationDesk desk, BigInteger above, BigInteger below) {
        return dueHalf(what + ", numerator", desk, false, above.abs())
                + dueHalf(what + ", denominator", desk, true, below);
    }

    private static int dueHalf(String what, EquationDesk desk, boolean below, BigInteger want) {
        due(what + " bits", desk.bits(below), want.bitLength());
        BigInteger read = BigInteger.ZERO;
        // One or two parts more than it has: those behind its end must be 0.
        int parts = want.bitLength() / 31 + 2;
        for (int k = 0; k < parts; k++) {
            int part = desk.part(below, k);
            due(what + " part " + k + " is not below 0", part >= 0, true);
            read = read.add(BigInteger.valueOf(part).shiftLeft(31 * k));
        }
        due(what, read, want);
        return parts + 1;
    }

    /** A desk with these rows, each n coefficients and the right side. */
    static EquationDesk desk(long[]... rows) {
        EquationDesk desk = new EquationDesk();
        fill(desk, rows);
        return desk;
    }

    static void fill(EquationDesk desk, long[]... rows) {
        desk.size(rows.length);
        for (int i = 0; i < rows.length; i++) {
            for (int j = 0; j <= rows.length; j++) {
                desk.put(i, j, rows[i][j]);
            }
        }
    }

    static long[] row(long... values) {
        return values;
    }

    static void end(String test) {
        if (wrong != 0) {
            System.out.println(test + ": " + wrong + " answers are not as due");
            System.exit(1);
        }
    }
}
