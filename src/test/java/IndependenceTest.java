/** Promises 24 and 25: independent, given. */
public final class IndependenceTest {
    public static void main(String[] args) {
        pairs();
        thirds();
        weights();
        wrong();
        Check.end();
    }

    private static void due(ChanceWorks x, int i, int j, boolean want) {
        Check.due("independent(" + i + ", " + j + ")", x.independent(i, j) ? 1 : 0, want ? 1 : 0);
        Check.due("independent(" + j + ", " + i + ")", x.independent(j, i) ? 1 : 0, want ? 1 : 0);
    }

    private static void due(ChanceWorks x, int i, int j, int third, boolean want) {
        Check.due("given(" + i + ", " + j + ", " + third + ")", x.given(i, j, third) ? 1 : 0, want ? 1 : 0);
        Check.due("given(" + j + ", " + i + ", " + third + ")", x.given(j, i, third) ? 1 : 0, want ? 1 : 0);
    }

    private static void pairs() {
        ChanceWorks x = Check.solved("var a; var b; var c; arr d[2]; func main() { a ~ flip(1, 3); b ~ { 4 : 1, 5 : 6, 6 : 2 }; c = a * b; d[1] = 7; d[0] = 1 - a; return c; }");
        due(x, 0, 1, true);
        due(x, 0, 2, false);
        due(x, 1, 2, false);
        due(x, 0, 4, true);
        due(x, 4, 4, true);
        due(x, 0, 0, false);
        due(x, 0, 3, false);
        due(x, 1, 3, true);
    }

    private static void thirds() {
        ChanceWorks x = Check.solved("var a; var b; var c; func main() { c ~ flip(1, 2); a ~ flip(1 + c * 4, 2); b ~ flip(3, 1 + c * 8); }");
        due(x, 0, 1, false);
        due(x, 0, 1, 2, true);
        due(x, 0, 2, 1, false);
        due(x, 0, 0, 0, true);
        due(x, 0, 1, 0, true);
        ChanceWorks y = Check.solved("var a; var b; var c; func main() { a ~ pick(2); b ~ pick(2); c = (a + b) % 2; }");
        due(y, 0, 1, true);
        due(y, 0, 1, 2, false);
        due(y, 0, 2, true);
    }

    /** What is cut, lost or failed does not count, nor endings that the plan never comes to. */
    private static void weights() {
        ChanceWorks x = Check.solved("var a; var b; func main() { a ~ pick(3); b ~ pick(3); observe a != 2 | b != 2; if a == 2 { while 1 { } } if b == 2 { a = 1 / 0; } }");
        due(x, 0, 1, true);
        ChanceWorks y = Check.solved("var a; var b; func main() { a ~ pick(2); b ~ pick(2); observe a | b; }");
        due(y, 0, 1, false);
        ChanceWorks z = Check.solved("var a; var b; var c; func main() { c = choose(2); a ~ pick(2); if c { b = a; } else { b ~ pick(2); } c = 0; }");
        due(z, 0, 1, true);
        z.decide(0 + first(z), 1);
        z.solve();
        due(z, 0, 1, false);
        ChanceWorks w = Check.solved("var a; var b; func main() { while 1 { a ~ pick(2); b = a; } }");
        due(w, 0, 1, true);
        due(w, 0, 1, 0, true);
        ChanceWorks v = Check.solved("var a; var b; func main() { a ~ flip(999999, 1); b ~ flip(999998 + a, 2 - a); }");
        due(v, 0, 1, false);
        ChanceWorks e = Check.solved("var a = 2; var b = 3; func main() { }");
        due(e, 0, 1, true);
        due(e, 0, 1, 1, true);
    }

    private static int first(ChanceWorks x) {
        int k = 0;
        while (x.state(k, 3) == 0) {
            k++;
        }
        return k;
    }

    private static void wrong() {
        ChanceWorks x = Check.house("var a; arr b[2]; func main() { }");
        Check.due("not explored", Check.of(() -> x.independent(9, 9) ? 1 : 0), "IllegalStateException");
        x.explore(1);
        Check.due("not solved", Check.of(() -> x.independent(9, 9) ? 1 : 0), "IllegalStateException");
        Check.due("not solved", Check.of(() -> x.given(9, 9, 9) ? 1 : 0), "IllegalStateException");
        x.solve();
        for (int i : new int[] {-1, 3, Integer.MIN_VALUE, Integer.MAX_VALUE}) {
            Check.due("independent(" + i + ", 0)", Check.of(() -> x.independent(i, 0) ? 1 : 0), "IndexOutOfBoundsException");
            Check.due("independent(0, " + i + ")", Check.of(() -> x.independent(0, i) ? 1 : 0), "IndexOutOfBoundsException");
            Check.due("given(" + i + ", 0, 0)", Check.of(() -> x.given(i, 0, 0) ? 1 : 0), "IndexOutOfBoundsException");
            Check.due("given(0, " + i + ", 0)", Check.of(() -> x.given(0, i, 0) ? 1 : 0), "IndexOutOfBoundsException");
            Check.due("given(0, 0, " + i + ")", Check.of(() -> x.given(0, 0, i) ? 1 : 0), "IndexOutOfBoundsException");
        }
        Check.due("independent(0, 2)", x.independent(0, 2) ? 1 : 0, 1);
    }
}
