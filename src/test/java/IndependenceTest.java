import java.math.BigInteger;
import java.util.Random;

/** Promises 24 and 25: independent, given. */
public final class IndependenceTest {
    public static void main(String[] args) {
        pairs();
        thirds();
        weights();
        tables();
        for (int seed = 0; seed < 200; seed++) {
            byDefinition(new Random(seed));
        }
        wrong();
        Check.end();
    }

    private static void due(ChanceWorks x, int i, int j, boolean want) {
        Check.due("independent(" + i + ", " + j + ")", x.independent(i, j) ? 1 : 0, want ? 1 : 0);
        Check.due("independent(" + j + ", " + i + ")", x.independent(j, i) ? 1 : 0, want ? 1 : 0);
    }

    private static void due(ChanceWorks x, int i, int j, int third, boolean want) {
        Check.due("given(" + i + ", " + j + ", " + third + ")", x.given(i, j, third) ? 1 : 0, want ? 1 : 0);
        Check.due("given(" + j + ", " + i + ", " + third + ")", x.given(j, i, third) ? 1 : 0, want ? 1 : 0);
    }

    private static void pairs() {
        ChanceWorks x = Check.solved("var a; var b; var c; arr d[2]; func main() { a ~ flip(1, 3); b ~ { 4 : 1, 5 : 6, 6 : 2 }; c = a * b; d[1] = 7; d[0] = 1 - a; return c; }");
        due(x, 0, 1, true);
        due(x, 0, 2, false);
        due(x, 1, 2, false);
        due(x, 0, 4, true);
        due(x, 4, 4, true);
        due(x, 0, 0, false);
        due(x, 0, 3, false);
        due(x, 1, 3, true);
    }

    private static void thirds() {
        ChanceWorks x = Check.solved("var a; var b; var c; func main() { c ~ flip(1, 2); a ~ flip(1 + c * 4, 2); b ~ flip(3, 1 + c * 8); }");
        due(x, 0, 1, false);
        due(x, 0, 1, 2, true);
        due(x, 0, 2, 1, false);
        due(x, 0, 0, 0, true);
        due(x, 0, 1, 0, true);
        ChanceWorks y = Check.solved("var a; var b; var c; func main() { a ~ pick(2); b ~ pick(2); c = (a + b) % 2; }");
        due(y, 0, 1, true);
        due(y, 0, 1, 2, false);
        due(y, 0, 2, true);
    }

    /** What is cut, lost or failed does not count, nor endings that the plan never comes to. */
    private static void weights() {
        ChanceWorks x = Check.solved("var a; var b; func main() { a ~ pick(3); b ~ pick(3); observe a != 2 | b != 2; if a == 2 { while 1 { } } if b == 2 { a = 1 / 0; } }");
        due(x, 0, 1, true);
        ChanceWorks y = Check.solved("var a; var b; func main() { a ~ pick(2); b ~ pick(2); observe a | b; }");
        due(y, 0, 1, false);
        ChanceWorks z = Check.solved("var a; var b; var c; func main() { c = choose(2); a ~ pick(2); if c { b = a; } else { b ~ pick(2); } c = 0; }");
        due(z, 0, 1, true);
        z.decide(0 + first(z), 1);
        z.solve();
        due(z, 0, 1, false);
        ChanceWorks u = Check.solved("var a; var b; func main() { local c = 0; c = choose(2); if c { a = 1; b = 1; } else { a ~ pick(1); } }");
        due(u, 0, 1, true);
        ChanceWorks t = Check.solved("var a; var b; func main() { b ~ pick(2); if b { a = choose(2); } else { a = choose(3); } }");
        due(t, 0, 1, true);
        t.decide(3, 1);
        t.solve();
        due(t, 0, 1, false);
        ChanceWorks w = Check.solved("var a; var b; func main() { while 1 { a ~ pick(2); b = a; } }");
        due(w, 0, 1, true);
        due(w, 0, 1, 0, true);
        ChanceWorks v = Check.solved("var a; var b; func main() { a ~ flip(999999, 1); b ~ flip(999998 + a, 2 - a); }");
        due(v, 0, 1, false);
        ChanceWorks e = Check.solved("var a = 2; var b = 3; func main() { }");
        due(e, 0, 1, true);
        due(e, 0, 1, 1, true);
    }

    /** Tables of more rows than columns and the other way, whose last cell alone may be wrong. */
    private static void tables() {
        for (int off = 0; off <= 1; off++) {
            String last = "if a == 4 { b ~ { 0 : 1, 1 : 2, 2 : " + (3 + off) + " }; } else { b ~ { 0 : 10, 1 : 20, 2 : 30 }; }";
            ChanceWorks x = Check.solved("var a; var b; var c; func main() { a ~ pick(5); " + last + " }");
            due(x, 0, 1, off == 0);
            due(x, 0, 1, 2, off == 0);
            ChanceWorks y = Check.solved("var a; var b; var c; func main() { c ~ pick(7); a ~ pick(5); b ~ { 0 : 10, 1 : 20, 2 : 30 }; if c == 6 { "
                    + last + " } }");
            due(y, 0, 1, off == 0);
            due(y, 0, 1, 2, off == 0);
        }
        ChanceWorks z = Check.solved("var a; var b; var c; func main() { a ~ pick(3); b ~ pick(3); c = a == 2 & b == 2; }");
        due(z, 0, 1, 2, false);
        due(z, 0, 1, true);
    }

    private static String draw(Random random, String place, String other) {
        int high = random.nextInt(3) == 0 ? 900000 : 9;
        switch (random.nextInt(5)) {
            case 0:
                return place + " ~ pick(" + (1 + random.nextInt(4)) + "); ";
            case 1:
                return place + " ~ flip(" + (1 + random.nextInt(high)) + " + " + other + ", " + (1 + random.nextInt(high)) + "); ";
            case 2:
                return place + " ~ { 0 : " + (1 + random.nextInt(high)) + ", 1 : " + random.nextInt(high) + ", 2 : 1 + " + other + " * "
                        + random.nextInt(3) + " }; ";
            case 3:
                return place + " = (" + place + " + " + other + ") % 3; ";
            default:
                return "if " + other + " { " + place + " ~ pick(2); } else { " + place + " ~ flip(3, 3); } ";
        }
    }

    private static void byDefinition(Random random) {
        StringBuilder text = new StringBuilder("var a; var b; arr c[2]; func main() { local h = 0; ");
        String[] places = {"a", "b", "c[0]", "c[1]", "h"};
        for (int n = 2 + random.nextInt(5); n > 0; n--) {
            text.append(draw(random, places[random.nextInt(5)], places[random.nextInt(5)]));
        }
        if (random.nextInt(3) == 0) {
            text.append("observe a | b | h; ");
        }
        ChanceWorks x = Check.solved(text.append("}").toString());
        BigInteger[] weights = weightsOf(x);
        for (int i = 0; i < 4; i++) {
            for (int j = 0; j < 4; j++) {
                Check.due("independent(" + i + ", " + j + ") of " + text, x.independent(i, j) ? 1 : 0, apart(x, weights, i, j, 4) ? 1 : 0);
                for (int third = 0; third < 4; third++) {
                    Check.due("given(" + i + ", " + j + ", " + third + ") of " + text, x.given(i, j, third) ? 1 : 0,
                            apart(x, weights, i, j, third) ? 1 : 0);
                }
            }
        }
    }

    private static BigInteger[] weightsOf(ChanceWorks x) {
        int many = x.count(5);
        BigInteger[] weights = new BigInteger[many];
        BigInteger all = BigInteger.ONE;
        for (int e = 0; e < many; e++) {
            x.show(2, e);
            all = all.multiply(Check.part(x, 1)).divide(all.gcd(Check.part(x, 1)));
        }
        for (int e = 0; e < many; e++) {
            x.show(2, e);
            weights[e] = Check.part(x, 0).multiply(all).divide(Check.part(x, 1));
        }
        return weights;
    }

    private static int valueOf(ChanceWorks x, int e, int i) {
        return i < 4 ? x.ending(e, i) : 0;
    }

    /** By the words of the promises: for the numbers of each two endings that are alike in the third. */
    private static boolean apart(ChanceWorks x, BigInteger[] weights, int i, int j, int third) {
        for (int one = 0; one < weights.length; one++) {
            for (int two = 0; two < weights.length; two++) {
                int t = valueOf(x, one, third);
                int a = valueOf(x, one, i);
                int b = valueOf(x, two, j);
                if (valueOf(x, two, third) != t) {
                    continue;
                }
                BigInteger[] sums = {BigInteger.ZERO, BigInteger.ZERO, BigInteger.ZERO, BigInteger.ZERO};
                for (int e = 0; e < weights.length; e++) {
                    if (valueOf(x, e, third) == t) {
                        int which = (valueOf(x, e, i) == a ? 1 : 0) + (valueOf(x, e, j) == b ? 2 : 0);
                        sums[which] = sums[which].add(weights[e]);
                    }
                }
                BigInteger all = sums[0].add(sums[1]).add(sums[2]).add(sums[3]);
                if (!sums[3].multiply(all).equals(sums[1].add(sums[3]).multiply(sums[2].add(sums[3])))) {
                    return false;
                }
            }
        }
        return true;
    }

    private static int first(ChanceWorks x) {
        int k = 0;
        while (x.state(k, 3) == 0) {
            k++;
        }
        return k;
    }

    private static void wrong() {
        ChanceWorks x = Check.house("var a; arr b[2]; func main() { }");
        Check.due("not explored", Check.of(() -> x.independent(9, 9) ? 1 : 0), "IllegalStateException");
        x.explore(1);
        Check.due("not solved", Check.of(() -> x.independent(9, 9) ? 1 : 0), "IllegalStateException");
        Check.due("not solved", Check.of(() -> x.given(9, 9, 9) ? 1 : 0), "IllegalStateException");
        x.solve();
        for (int i : new int[] {-1, 3, Integer.MIN_VALUE, Integer.MAX_VALUE}) {
            Check.due("independent(" + i + ", 0)", Check.of(() -> x.independent(i, 0) ? 1 : 0), "IndexOutOfBoundsException");
            Check.due("independent(0, " + i + ")", Check.of(() -> x.independent(0, i) ? 1 : 0), "IndexOutOfBoundsException");
            Check.due("given(" + i + ", 0, 0)", Check.of(() -> x.given(i, 0, 0) ? 1 : 0), "IndexOutOfBoundsException");
            Check.due("given(0, " + i + ", 0)", Check.of(() -> x.given(0, i, 0) ? 1 : 0), "IndexOutOfBoundsException");
            Check.due("given(0, 0, " + i + ")", Check.of(() -> x.given(0, 0, i) ? 1 : 0), "IndexOutOfBoundsException");
        }
        Check.due("independent(0, 2)", x.independent(0, 2) ? 1 : 0, 1);
    }
}
