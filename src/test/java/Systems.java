/** Systems that several tests use: n rows, each n coefficients and the right side. */
final class Systems {
    static final int MOST = 12;
    static final long LEAST = Long.MIN_VALUE;
    static final long GREATEST = Long.MAX_VALUE;

    private Systems() {
    }

    /** One number on the diagonal, another everywhere else, and the right sides. */
    static long[][] diagonal(int n, long on, long off, long right) {
        long[][] rows = new long[n][n + 1];
        for (int i = 0; i < n; i++) {
            for (int j = 0; j < n; j++) {
                rows[i][j] = i == j ? on : off;
            }
            rows[i][n] = right;
        }
        return rows;
    }

    static long[][] unit(int n, long right) {
        return diagonal(n, 1L, 0L, right);
    }

    static long[][] same(int n, long value) {
        return diagonal(n, value, value, value);
    }

    /** Paley's matrix of 12: rows at right angles, so Hadamard's bound is reached. */
    static long[][] paley(long plus, long minus) {
        boolean[] square = new boolean[11];
        for (int x = 1; x < 11; x++) {
            square[x * x % 11] = true;
        }
        long[][] rows = new long[MOST][MOST + 1];
        for (int i = 0; i < MOST; i++) {
            for (int j = 0; j < MOST; j++) {
                boolean up = i == 0 || i == j || j != 0 && square[(j - i + 11) % 11];
                rows[i][j] = up ? plus : minus;
            }
        }
        return rows;
    }

    /** Full to the last place: Paley's matrix of the two ends of long, and right sides of both. */
    static long[][] fullPaley() {
        long[][] rows = paley(GREATEST, LEAST);
        for (int i = 0; i < MOST; i++) {
            rows[i][MOST] = i % 3 == 1 ? GREATEST : LEAST;
        }
        return rows;
    }

    /** Full to the last place with the two ends of long, in an order that looks random. */
    static long[][] fullMixed(long start) {
        long seed = start;
        long[][] rows = new long[MOST][MOST + 1];
        for (int i = 0; i < MOST; i++) {
            for (int j = 0; j <= MOST; j++) {
                seed = seed * 6364136223846793005L + 1442695040888963407L;
                rows[i][j] = seed < 0 ? LEAST : GREATEST;
            }
        }
        return rows;
    }
}
