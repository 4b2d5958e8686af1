/** What README.md shows how to use, with the answers that it tells. */
public final class ExampleTest {
    public static void main(String[] args) {
        odds();
        plan();
        draws();
        Check.end();
    }

    /** As README.md has it. */
    private static void feed(ChanceWorks x, String text) {
        String all = text + " ".repeat((20 - text.length() % 20) % 20);
        for (int at = 0; at < all.length(); at += 20) {
            int[] w = new int[5];
            for (int i = 0; i < 20; i++) {
                w[i / 4] = w[i / 4] << 8 | all.charAt(at + i);
            }
            x.feed(w[0], w[1], w[2], w[3], w[4]);
        }
    }

    private static void odds() {
        ChanceWorks x = new ChanceWorks();
        feed(x, "var v; func main() { v ~ flip(1, 2); gain v * 6; return v; }");
        Check.due("program()", x.program(), 3);
        Check.due("explore(1000)", x.explore(1000), 5);
        Check.due("count(5)", x.count(5), 2);
        Check.due("next(0, 1, 2)", x.next(0, 1, 2), 2);
        Check.due("solve()", x.solve(), 0);
        Check.due("show(0, 1)", x.show(0, 1), 1);
        Check.due("limb(0, 0)", x.limb(0, 0), 1);
        Check.due("limb(1, 0)", x.limb(1, 0), 3);
        Check.due("show(7, 0)", x.show(7, 0), 1);
        Check.due("limb(0, 0)", x.limb(0, 0), 2);
        Check.due("limb(1, 0)", x.limb(1, 0), 1);
        feed(x, "func main() { v = 1; }");
        Check.due("program() with a fault", x.program(), -15);
        Check.due("fault()", x.fault(), 11);
        Check.due("count(3) of what was before", x.count(3), 3);
    }

    private static void plan() {
        ChanceWorks x = new ChanceWorks();
        feed(x, "var c; func main() { c = choose(2); if c { c ~ flip(1, 2); gain c * 9; } else { gain 2; } }");
        x.program();
        x.explore(1000);
        Check.due("decided(0)", x.decided(0), 0);
        Check.due("best()", x.best(), 0);
        Check.due("decided(0)", x.decided(0), 1);
        Check.due("show(11, 0)", Check.show(x, 11, 0), "3/1");
        Check.due("decide(0, 0)", x.decide(0, 0), 1);
        x.solve();
        Check.due("show(7, 0)", Check.show(x, 7, 0), "2/1");
    }

    private static void draws() {
        ChanceWorks x = new ChanceWorks();
        feed(x, "var v; func main() { v ~ flip(1, 2); gain v * 6; return v; }");
        x.program();
        x.tell(0);
        Check.due("walk(2000)", x.walk(2000), 1);
        Check.due("played(1)", x.played(1), 1);
        Check.due("played(4)", x.played(4), 6);
        Check.due("show(12, 0)", Check.show(x, 12, 0), "1/3");
        Check.due("play(7, 2000)", x.play(7L, 2000), 1);
        Check.due("forget()", x.forget(), 1);
    }
}
