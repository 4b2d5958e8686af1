import java.math.BigInteger;
import java.util.ArrayList;
import java.util.List;

/** What is explored, solved once more: slowly, by whole matrices of fractions, from next() and state() alone. */
final class Fractions {
    private final ChanceWorks x;
    private final int states;
    private final int endings;
    private final List<List<int[]>> nexts = new ArrayList<>();
    private final boolean[] open;
    private final BigInteger[][] visits;

    Fractions(ChanceWorks x) {
        this.x = x;
        states = x.count(4);
        endings = x.count(5);
        for (int k = 0; k < states; k++) {
            nexts.add(taken(k));
        }
        open = findOpen();
        visits = solve();
    }

    /** What the plan takes: each what it is, its number, its weight, the total. */
    private List<int[]> taken(int k) {
        List<int[]> all = new ArrayList<>();
        boolean chooses = x.state(k, 3) == 1;
        for (int i = 0; i < x.state(k, 2); i++) {
            if (!chooses || i == x.decided(k)) {
                all.add(new int[] {x.next(k, i, 0), x.next(k, i, 1), x.next(k, i, 2), chooses ? 1 : x.state(k, 5)});
            }
        }
        return all;
    }

    private boolean[] findOpen() {
        boolean[] found = new boolean[states];
        boolean more = true;
        while (more) {
            more = false;
            for (int k = 0; k < states; k++) {
                for (int[] next : nexts.get(k)) {
                    if (!found[k] && (next[0] != 0 || found[next[1]])) {
                        found[k] = true;
                        more = true;
                    }
                }
            }
        }
        return found;
    }

    private static BigInteger[] of(long top, long bottom) {
        return new BigInteger[] {BigInteger.valueOf(top), BigInteger.valueOf(bottom)};
    }

    private static BigInteger[] low(BigInteger top, BigInteger bottom) {
        BigInteger g = top.gcd(bottom);
        g = bottom.signum() < 0 ? g.negate() : g;
        return new BigInteger[] {top.divide(g), bottom.divide(g)};
    }

    private static BigInteger[] add(BigInteger[] a, BigInteger[] b) {
        return low(a[0].multiply(b[1]).add(b[0].multiply(a[1])), a[1].multiply(b[1]));
    }

    private static BigInteger[] times(BigInteger[] a, BigInteger[] b) {
        return low(a[0].multiply(b[0]), a[1].multiply(b[1]));
    }

    private static BigInteger[] over(BigInteger[] a, BigInteger[] b) {
        return low(a[0].multiply(b[1]), a[1].multiply(b[0]));
    }

    private static BigInteger[] minus(BigInteger[] a) {
        return new BigInteger[] {a[0].negate(), a[1]};
    }

    private BigInteger[][] solve() {
        BigInteger[][][] rows = new BigInteger[states][states + 1][];
        for (int k = 0; k < states; k++) {
            for (int j = 0; j <= states; j++) {
                rows[k][j] = of(k == j || k == 0 && j == states && open[0] ? 1 : 0, 1);
            }
        }
        for (int k = 0; k < states; k++) {
            for (int[] next : nexts.get(k)) {
                if (next[0] == 0 && open[k] && open[next[1]]) {
                    rows[next[1]][k] = add(rows[next[1]][k], of(-next[2], next[3]));
                }
            }
        }
        for (int pivot = 0; pivot < states; pivot++) {
            for (int row = 0; row < states; row++) {
                if (row != pivot && rows[row][pivot][0].signum() != 0) {
                    BigInteger[] factor = minus(over(rows[row][pivot], rows[pivot][pivot]));
                    for (int j = pivot; j <= states; j++) {
                        if (rows[pivot][j][0].signum() != 0) {
                            rows[row][j] = add(rows[row][j], times(factor, rows[pivot][j]));
                        }
                    }
                }
            }
        }
        BigInteger[][] found = new BigInteger[states][];
        for (int k = 0; k < states; k++) {
            found[k] = over(rows[k][states], rows[k][k]);
        }
        return found;
    }

    /** The weight of what is of a kind (1 an ending, 2 a failure, 3 the cut) and has a number (null: of all). */
    private BigInteger[] weight(int kind, Integer number) {
        BigInteger[] sum = of(0, 1);
        for (int k = 0; k < states; k++) {
            for (int[] next : nexts.get(k)) {
                if (next[0] == kind && (number == null || next[1] == number)) {
                    sum = add(sum, times(visits[k], of(next[2], next[3])));
                }
            }
        }
        return sum;
    }

    /** The weight of all endings with this number, or what they weigh times their numbers (null). */
    private BigInteger[] ends(Integer number) {
        BigInteger[] sum = of(0, 1);
        for (int e = 0; e < endings; e++) {
            int with = x.ending(e, -1);
            if (number == null || with == number) {
                sum = add(sum, times(weight(1, e), of(number == null ? with : 1, 1)));
            }
        }
        return sum;
    }

    private BigInteger[] find(int kind, int v) {
        BigInteger[] kept = add(weight(1, null), weight(2, null));
        switch (kind) {
            case 0:
                return over(ends(v), kept);
            case 1:
                return over(weight(2, v), kept);
            case 2:
                return weight(1, v);
            case 3:
                return weight(2, v);
            case 4:
                return weight(3, null);
            case 5:
                return add(of(1, 1), minus(add(kept, weight(3, null))));
            case 6:
                return kept;
            case 8:
                return visits[v];
            case 9:
                BigInteger[] all = of(0, 1);
                for (BigInteger[] one : visits) {
                    all = add(all, one);
                }
                return all;
            default:
                return over(ends(null), weight(1, null));
        }
    }

    String show(int kind, int v) {
        BigInteger[] found = find(kind, v);
        return found[0] + "/" + found[1];
    }
}
