import java.math.BigInteger;

/** Promises 15 to 18: solve, show, size, limb. */
public final class SolveTest {
    public static void main(String[] args) {
        dice();
        ruin();
        lost();
        kinds();
        plans();
        bits();
        rings();
        wide();
        wrong();
        Check.end();
    }

    private static void dice() {
        ChanceWorks x = Check.solved("var s; func main() { while s == 0 { s ~ { 2 : 1, 7 : 6, 0 : 29 }; gain 1; } if s == 2 { return 0; } return s; }");
        Check.due("rolls till seven or two", Check.show(x, 7, 0), "36/7");
        Check.due("odds of seven", Check.show(x, 0, 7), "6/7");
        Check.due("odds of two", Check.show(x, 0, 0), "1/7");
        Check.due("odds of three", Check.show(x, 0, 3), "0/1");
        Check.due("what runs end with", Check.show(x, 10, 0), "6/1");
        Check.due("kept", Check.show(x, 6, 0), "1/1");
        Check.due("lost", Check.show(x, 5, 0), "0/1");
    }

    /** Who has 2 of 4 and wins 1 with the odds 2 / 5: (q/p)^2 - 1 over (q/p)^4 - 1. */
    private static void ruin() {
        ChanceWorks x = Check.solved("var m = 2; func main() { local b = 0; while m % 4 { b ~ flip(2, 3); m = m + 2 * b - 1; b = 0; } return m; }");
        Check.due("odds of 4", Check.show(x, 0, 4), "4/13");
        Check.due("odds of 0", Check.show(x, 0, 0), "9/13");
        Check.due("visits of the beginning", Check.show(x, 8, 0), "1/1");
    }

    private static void lost() {
        ChanceWorks x = Check.solved("var v; func main() { v ~ { 0 : 1, 1 : 2, 2 : 3, 3 : 4 }; if v == 0 { while 1 { gain 5; } } observe v > 1; v = 1 / (v - 2); return v; }");
        Check.due("lost", Check.show(x, 5, 0), "1/10");
        Check.due("the cut", Check.show(x, 4, 99), "1/5");
        Check.due("kept", Check.show(x, 6, 0), "7/10");
        Check.due("weight of failure 2", Check.show(x, 3, 2), "3/10");
        Check.due("odds of failure 2", Check.show(x, 1, 2), "3/7");
        Check.due("odds of failure 3", Check.show(x, 1, 3), "0/1");
        Check.due("weight of failure 0", Check.show(x, 3, 0), "0/1");
        Check.due("weight of failure 6", Check.show(x, 3, 6), "0/1");
        Check.due("odds of 1", Check.show(x, 0, 1), "4/7");
        Check.due("weight of ending 0", Check.show(x, 2, 0), "2/5");
        Check.due("gains of states without end do not count", Check.show(x, 7, 0), "0/1");
        for (int k = 0; k < x.count(4); k++) {
            if (x.state(k, 4) == 1) {
                Check.due("visits of a state that is not open", Check.show(x, 8, k), "0/1");
            }
        }
        ChanceWorks y = Check.solved("func main() { while 1 { } }");
        Check.due("all is lost", Check.show(y, 5, 0), "1/1");
        Check.due("nothing is kept", Check.show(y, 6, 0), "0/1");
        Check.due("no visits", Check.show(y, 9, 0), "0/1");
        Check.due("no odds", Check.of(() -> y.show(0, 0)), "IllegalStateException");
        Check.due("no odds of failures", Check.of(() -> y.show(1, 1)), "IllegalStateException");
        Check.due("no average", Check.of(() -> y.show(10, 0)), "IllegalStateException");
        Check.due("what was shown stays", Check.fraction(y, 0), "0/1");
        ChanceWorks z = Check.solved("func main() { return 1 / 0; }");
        Check.due("no average of failures", Check.of(() -> z.show(10, 0)), "IllegalStateException");
        Check.due("odds of a failure alone", Check.show(z, 1, 2), "1/1");
        ChanceWorks w = Check.solved("func main() { observe 0; }");
        Check.due("the cut alone", Check.show(w, 4, 0), "1/1");
        Check.due("no odds when all is cut", Check.of(() -> w.show(0, 0)), "IllegalStateException");
    }

    private static void kinds() {
        ChanceWorks x = Check.solved("var v; func main() { v ~ flip(1, 2); gain v * 5 - 4; return 0 - v * 999999999 * 2 - 3; }");
        Check.due("a gain below 0", Check.show(x, 7, 0), "-7/3");
        Check.due("its sign", x.show(7, 0), -1);
        Check.due("an average below 0", Check.show(x, 10, 0), "-" + (1999999998L / 3 + 3) + "/1");
        Check.due("visits of all", Check.show(x, 9, 0), "3/1");
        Check.due("visits of a state", Check.show(x, 8, 1), "1/3");
        ChanceWorks y = Check.solved("var v; func main() { v ~ flip(1, 2); gain 1 / v; gain 6; }");
        Check.due("a gain that fails adds nothing", Check.show(y, 7, 0), "7/3");
        ChanceWorks z = Check.solved("func main() { return 0 - 999999999 - 999999999 - 147483650; }");
        Check.due("the least number", Check.show(z, 10, 0), "-2147483648/1");
        Check.due("size(0)", z.size(0), 1);
        Check.due("limb(0, 0)", z.limb(0, 0), Integer.MIN_VALUE);
        ChanceWorks g = Check.solved("func main() { gain 0 - 999999999 - 999999999 - 147483650; }");
        Check.due("the least gain", Check.show(g, 7, 0), "-2147483648/1");
        ChanceWorks f = Check.solved("var v; func main() { v ~ pick(3); if v == 2 { v = 1 / 0; } return v * 4; }");
        Check.due("the average of those that END", Check.show(f, 10, 0), "2/1");
        Check.due("odds among failures too", Check.show(f, 0, 4), "1/3");
        ChanceWorks many = Check.solved("var v; func main() { v ~ { 1 : 1000000, 2 : 1000000, 3 : 1000000, 4 : 999999 }; return 0 - 999999999 - 999999999 - v; }");
        Check.due("an average of long numbers", Check.show(many, 10, 0), "-2666666000666666/1333333");
    }

    private static void plans() {
        ChanceWorks x = Check.solved("var c; func main() { c = choose(2); if c { c ~ flip(1, 3); gain c * 8; return 1; } while 1 { } }");
        Check.due("lost by the plan", Check.show(x, 5, 0), "1/1");
        Check.due("visits by the plan", Check.show(x, 8, 0), "0/1");
        Check.due("decide(0, 1)", x.decide(0, 1), 0);
        Check.due("show(5, 0)", Check.of(() -> x.show(5, 0)), "IllegalStateException");
        Check.due("solve()", x.solve(), 0);
        Check.due("lost by another plan", Check.show(x, 5, 0), "0/1");
        Check.due("the gain by another plan", Check.show(x, 7, 0), "2/1");
        Check.due("visits by another plan", Check.show(x, 8, 0), "1/1");
        x.explore(1000);
        Check.due("show(5, 0)", Check.of(() -> x.show(5, 0)), "IllegalStateException");
        Check.due("the plan is 0 again", x.decided(0), 0);
        ChanceWorks last = Check.solved("var c; func main() { c ~ pick(2); c = choose(3); }");
        Check.due("an ending that is chosen", Check.show(last, 2, 0), "1/1");
        Check.due("an ending that is not", Check.show(last, 2, 2), "0/1");
        Check.due("nothing is lost", Check.show(last, 5, 0), "0/1");
        Check.due("all that is kept", Check.show(last, 6, 0), "1/1");
        last.decide(2, 2);
        last.solve();
        Check.due("an ending that is chosen half the time", Check.show(last, 2, 2), "1/2");
        ChanceWorks never = Check.solved("var c; func main() { c = choose(2); if c { return 1; } while 1 { } }");
        Check.due("an end that no run comes to weighs nothing", Check.of(() -> never.show(0, 1)), "IllegalStateException");
        Check.due("and has no average", Check.of(() -> never.show(10, 1)), "IllegalStateException");
        Check.due("its weight", Check.show(never, 2, 0), "0/1");
    }

    private static String flips(int first, int second) {
        StringBuilder text = new StringBuilder("var v; func main() { ");
        for (int n = 0; n < first; n++) {
            text.append("v ~ flip(1, 999999); if v { return 1; } ");
        }
        for (int n = 0; n < second; n++) {
            text.append("v ~ flip(1, 1); if v { return 1; } ");
        }
        return text.append("v ~ flip(1, 1); }").toString();
    }

    /** A run comes to the last flip with the odds 0.999999 ^ first / 2 ^ second. */
    private static void bits() {
        ChanceWorks x = Check.explored(flips(12, 16));
        Check.due("256 bits below the line", BigInteger.valueOf(1000000).pow(12).shiftLeft(16).bitLength(), 256);
        Check.due("solve() with 256 bits", x.solve(), 0);
        Check.due("the last flip", Check.show(x, 8, x.count(4) - 1), oddsOfLast(12, 16));
        Check.due("odds of ending with 0", Check.show(x, 0, 0), oddsOfLast(12, 16));
        Check.due("257 bits of a weight", Check.show(x, 2, x.count(5) - 1), oddsOfLast(12, 17));
        Check.due("size(1)", x.size(1), 9);
        Check.due("limb(1, 8)", x.limb(1, 8), 1);
        ChanceWorks y = Check.explored(flips(12, 17));
        Check.due("solve() with 257 bits", y.solve(), -3);
        Check.due("show(9, 0)", Check.of(() -> y.show(9, 0)), "IllegalStateException");
        Check.due("solve() again", y.solve(), -3);
        // Two ways of 140 bits each that share nothing come together.
        ChanceWorks met = Check.explored("var v; func main() { local c = 0; c ~ pick(2); if c { " + ways(999983) + "c = 0; } else { " + ways(999979) + "c = 0; } c = 0; }");
        Check.due("solve() where two ways meet", met.solve(), -3);
        ChanceWorks apart = Check.explored("var v; func main() { local c = 0; c ~ pick(2); if c { " + ways(999983) + "c = 0; } else { " + ways(999979) + "c = 0; } }");
        Check.due("solve() where they only end alike", apart.solve(), 0);
        Check.due("a weight of more than 256 bits", Check.show(apart, 0, 0).length() > 160 ? 1 : 0, 1);
        ChanceWorks ring = Check.explored("var v; func main() { while v < 99 { v ~ { (v + 1) % 16 : 999983 - v, 99 : 1 + v }; } }");
        Check.due("solve() of a ring with long visits", ring.solve(), -3);
    }

    private static String ways(int total) {
        return ("v ~ flip(1, " + (total - 1) + "); if v { return 1; } ").repeat(7);
    }

    private static String oddsOfLast(int first, int second) {
        BigInteger top = BigInteger.valueOf(999999).pow(first);
        return top + "/" + BigInteger.valueOf(1000000).pow(first).shiftLeft(second);
    }

    private static void rings() {
        // Two states a number: a ring of 2 n states, from which one number leads out.
        ChanceWorks x = Check.explored("var v; func main() { while v < 99 { v ~ { (v + 1) % 16 : 99 - v, 99 : 1 }; } }");
        Check.due("the ring", x.count(8), 32);
        Check.due("solve() of 32", x.solve(), 0);
        Check.due("visits of all", new Fractions(x).show(9, 0), Check.show(x, 9, 0));
        ChanceWorks y = Check.explored("var v; func main() { while v < 99 { v ~ { (v + 1) % 17 : 99 - v, 99 : 1 }; } }");
        Check.due("the ring", y.count(8), 34);
        Check.due("solve() of 34", y.solve(), -2);
        Check.due("show(9, 0)", Check.of(() -> y.show(9, 0)), "IllegalStateException");
        ChanceWorks odd = Check.explored("var v; var c; func main() { while v < 99 { v ~ { (v + 1) % 11 : 9, 99 : 1 }; c = 0; } }");
        Check.due("the ring", odd.count(8), 33);
        Check.due("solve() of 33", odd.solve(), -2);
        // A ring that no run comes to by the plan, and one that is not open by the plan.
        ChanceWorks z = Check.explored("var v; var c; func main() { c = choose(2); if c { while v < 99 { v ~ { (v + 1) % 17 : 1, 99 : 1 }; } } }");
        Check.due("solve() of a ring aside", z.solve(), -2);
        ChanceWorks w = Check.explored("var v; var c; func main() { c = choose(2); while c == 0 { v = (v + 1) % 40; } while v < 99 { if v == 0 { v = 99; } v = 99; } }");
        Check.due("solve() of a ring that is not open", w.solve(), 0);
        Check.due("lost there", Check.show(w, 5, 0), "1/1");
        ChanceWorks s = Check.solved("var v; func main() { while v == 0 { v ~ { 0 : 999999, 1 : 1 }; } return v; }");
        Check.due("long visits", Check.show(s, 9, 0), "2000002/1");
    }

    /** Many draws whose totals share nothing: sums of fractions of thousands of bits. */
    private static void wide() {
        String text = "var s; var t; func main() { s ~ pick(40); t ~ flip(900000 - s * 11, 1000 + s * s); s ~ flip(5 + s * 17 + t, 800000 - s); }";
        ChanceWorks x = Check.solved(text);
        Fractions all = new Fractions(x);
        int[][] shows = {{0, 0}, {0, 1}, {2, 0}, {2, 1}, {2, 2}, {2, 3}, {5, 0}, {6, 0}, {9, 0}, {10, 0}, {8, 60}};
        for (int[] show : shows) {
            Check.due("show(" + show[0] + ", " + show[1] + ")", Check.show(x, show[0], show[1]), all.show(show[0], show[1]));
        }
        Check.due("it is wide", Check.show(x, 2, 1).length() > 300 ? 1 : 0, 1);
        Check.due("limb behind the last one", Check.of(() -> x.limb(1, x.size(1))), "IndexOutOfBoundsException");
        Check.due("the highest limb", x.limb(1, x.size(1) - 1) != 0 ? 1 : 0, 1);
    }

    private static void wrong() {
        ChanceWorks x = Check.solved("var v; func main() { v ~ pick(2); return v; }");
        x.show(2, 1);
        for (int kind : new int[] {-1, 13, Integer.MIN_VALUE, Integer.MAX_VALUE}) {
            Check.due("show(" + kind + ", 0)", Check.of(() -> x.show(kind, 0)), "IllegalArgumentException");
        }
        for (int v : new int[] {-1, 3, Integer.MIN_VALUE, Integer.MAX_VALUE}) {
            Check.due("show(2, " + v + ")", Check.of(() -> x.show(2, v)), "IndexOutOfBoundsException");
            Check.due("show(8, " + v + ")", Check.of(() -> x.show(8, v)), "IndexOutOfBoundsException");
            Check.due("size(" + v + ")", Check.of(() -> x.size(v)), "IndexOutOfBoundsException");
            Check.due("limb(" + v + ", 0)", Check.of(() -> x.limb(v, 0)), "IndexOutOfBoundsException");
            Check.due("limb(0, " + v + ")", Check.of(() -> x.limb(0, v)), "IndexOutOfBoundsException");
        }
        Check.due("show(11, 0)", Check.of(() -> x.show(11, 0)), "IllegalStateException");
        Check.due("show(12, 0)", Check.of(() -> x.show(12, 0)), "IllegalStateException");
        Check.due("what was shown stays", Check.fraction(x, 1), "1/2");
        x.show(3, 1);
        Check.due("size(0) of 0", x.size(0), 0);
        Check.due("size(1) of 0", x.size(1), 1);
    }
}
