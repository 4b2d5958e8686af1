/** Promises 12 to 14: decide, decided, best; and the worth of states (kind 11 of show). */
public final class PlanTest {
    public static void main(String[] args) {
        decide();
        best();
        ties();
        notMade();
        bits();
        Check.end();
    }

    private static void decide() {
        ChanceWorks x = Check.explored("var c; func main() { c = choose(3); gain c; return c; }");
        Check.due("decided(0)", x.decided(0), 0);
        Check.due("decide(0, 2)", x.decide(0, 2), 0);
        Check.due("decide(0, 1)", x.decide(0, 1), 2);
        Check.due("decided(0)", x.decided(0), 1);
        for (int c : new int[] {-1, 3, Integer.MIN_VALUE, Integer.MAX_VALUE}) {
            Check.due("decide(0, " + c + ")", Check.of(() -> x.decide(0, c)), "IndexOutOfBoundsException");
        }
        for (int k : new int[] {-1, 1, 7, Integer.MIN_VALUE, Integer.MAX_VALUE}) {
            Check.due("decide(" + k + ", 0)", Check.of(() -> x.decide(k, 0)), "IndexOutOfBoundsException");
            Check.due("decided(" + k + ")", Check.of(() -> x.decided(k)), "IndexOutOfBoundsException");
        }
        Check.due("decided(0) still", x.decided(0), 1);
        x.solve();
        Check.due("the gain", Check.show(x, 7, 0), "1/1");
        Check.due("a decision that changes nothing", x.decide(0, 1), 1);
        Check.due("what was solved is gone all the same", Check.of(() -> x.show(7, 0)), "IllegalStateException");
        Check.due("a play by the plan", x.play(0, 9), 1);
        Check.due("its number", x.played(1), 1);
        ChanceWorks y = Check.explored("var c; func main() { c = choose(9); }");
        Check.due("a choice that fails", Check.of(() -> y.decided(0)), "IndexOutOfBoundsException");
        ChanceWorks z = Check.house("var c; func main() { c = choose(2); }");
        Check.due("nothing explored", Check.of(() -> z.decided(0)), "IndexOutOfBoundsException");
    }

    private static void best() {
        // Draw up to twice: keep 3 or draw one of 0 .. 5, then take it or draw once more.
        ChanceWorks x = Check.explored("var v; var c; func main() { c = choose(2); if c { v ~ pick(6); c = choose(2); if c { v ~ pick(6); } gain v; } else { gain 3; } return v; }");
        x.solve();
        Check.due("the gain of the first plan", Check.show(x, 7, 0), "3/1");
        Check.due("show(11, 0)", Check.of(() -> x.show(11, 0)), "IllegalStateException");
        Check.due("best()", x.best(), 0);
        Check.due("the worth of the beginning", Check.show(x, 11, 0), "13/4");
        Check.due("what is taken", x.decided(0), 1);
        Check.due("what was solved is gone", Check.of(() -> x.show(7, 0)), "IllegalStateException");
        x.solve();
        Check.due("the gain of the best plan", Check.show(x, 7, 0), "13/4");
        x.decide(0, 0);
        Check.due("the worth stays", Check.show(x, 11, 0), "13/4");
        Check.due("show(11, -1)", Check.of(() -> x.show(11, -1)), "IndexOutOfBoundsException");
        Check.due("show(11, of none)", Check.of(() -> x.show(11, x.count(4))), "IndexOutOfBoundsException");
        x.explore(1000);
        Check.due("show(11, 0) when explored again", Check.of(() -> x.show(11, 0)), "IllegalStateException");
    }

    private static void ties() {
        ChanceWorks x = Check.explored("var c; func main() { c = choose(4); gain c * (3 - c); }");
        Check.due("best()", x.best(), 0);
        Check.due("the first of the greatest", x.decided(0), 1);
        Check.due("its worth", Check.show(x, 11, 0), "2/1");
        ChanceWorks y = Check.explored("var c; var d; func main() { c = choose(3); if c == 0 { gain - 1; } if c == 1 { d ~ flip(1, 2); gain 0 - d; } if c == 2 { d ~ flip(2, 4); gain 0 - d; } }");
        y.best();
        Check.due("of worths below 0", y.decided(0), 1);
        Check.due("their worth", Check.show(y, 11, 0), "-1/3");
        ChanceWorks z = Check.explored("var c; func main() { c = choose(3); if c == 0 { gain - 2; } if c == 1 { gain 1 / 0; } observe c == 2; gain - 1; }");
        z.best();
        Check.due("failures are worth 0", z.decided(0), 1);
        Check.due("worth 0", Check.show(z, 11, 0), "0/1");
        ChanceWorks w = Check.explored("var d; func main() { d ~ { 5 : 1, - 4 : 2, 3 : 3, 0 : 0 }; gain d; gain 0 - 999999999 - 999999999 - 147483650; }");
        w.best();
        Check.due("a sum of both signs", Check.show(w, 11, 0), "-2147483647/1");
    }

    private static void notMade() {
        ChanceWorks x = Check.explored("var c; func main() { c = choose(2); while c { c ~ pick(2); } }");
        x.decide(0, 1);
        Check.due("solve()", x.solve(), 0);
        Check.due("best() with a ring", x.best(), -2);
        Check.due("the plan stays", x.decided(0), 1);
        Check.due("what is solved stays", Check.show(x, 6, 0), "1/1");
        Check.due("show(11, 0)", Check.of(() -> x.show(11, 0)), "IllegalStateException");
        ChanceWorks y = Check.explored("var c; func main() { c = choose(2); if c { while 1 { } } }");
        Check.due("best() with a ring of one", y.best(), -2);
    }

    private static String chain(int flips, String first) {
        StringBuilder text = new StringBuilder("var v; var c; func main() { " + first);
        for (int n = 0; n < flips; n++) {
            text.append("v ~ flip(1, 1048575 - 48576); if v == 0 { return 0; } ");
        }
        return text.append("gain 1; }").toString();
    }

    /** The worth is 1 / 1000000 ^ flips: 20 bits each, less a little. */
    private static void bits() {
        ChanceWorks x = Check.explored(chain(12, "c = choose(2); "));
        Check.due("solve()", x.solve(), 0);
        Check.due("best() of 240 bits", x.best(), 0);
        Check.due("its worth", Check.show(x, 11, 0), "1/1" + "0".repeat(72));
        ChanceWorks y = Check.explored(chain(13, "c = choose(2); "));
        y.decide(0, 1);
        Check.due("best() of 260 bits", y.best(), -3);
        Check.due("the plan stays", y.decided(0), 1);
        Check.due("show(11, 0)", Check.of(() -> y.show(11, 0)), "IllegalStateException");
        Check.due("best() of 240 bits at a draw", Check.explored(chain(12, "")).best(), 0);
        Check.due("best() of 260 bits at a draw", Check.explored(chain(13, "")).best(), -3);
    }
}
