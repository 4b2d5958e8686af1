/** Promises 6 to 11: count, explore, state, value, next, ending. */
public final class ExploreTest {
    public static void main(String[] args) {
        coin();
        joined();
        calls();
        rings();
        choices();
        empty();
        limits();
        wrong();
        Check.end();
    }

    private static void counts(ChanceWorks x, long... want) {
        for (int what = 0; what < want.length; what++) {
            Check.due("count(" + what + ")", x.count(what), want[what]);
        }
    }

    private static void next(ChanceWorks x, int k, int i, long what, long number, long weight) {
        Check.due("next(" + k + ", " + i + ", 0)", x.next(k, i, 0), what);
        Check.due("next(" + k + ", " + i + ", 1)", x.next(k, i, 1), number);
        Check.due("next(" + k + ", " + i + ", 2)", x.next(k, i, 2), weight);
    }

    private static void state(ChanceWorks x, int k, long... want) {
        for (int what = 0; what < want.length; what++) {
            Check.due("state(" + k + ", " + what + ")", x.state(k, what), want[what]);
        }
    }

    private static void coin() {
        ChanceWorks x = Check.house("var c = - 4; arr a[2]; func main() { a[1] ~ flip(2, 3); observe a[1]; return c / (a[0] * 0); }");
        Check.due("explore(4)", x.explore(4), 4);
        counts(x, 1, 1, 1, 3, 4, 0, 5, 0, 0, 0, 0, 0);
        state(x, 0, 0, 1, 2, 0, 0, 5);
        next(x, 0, 0, 0, 1, 2);
        next(x, 0, 1, 0, 2, 3);
        state(x, 1, 1, 1, 1, 0, 0, 1);
        next(x, 1, 0, 0, 3, 1);
        next(x, 2, 0, 3, 0, 1);
        next(x, 3, 0, 2, 2, 1);
        Check.due("value(0, NONE, 0)", x.value(0, ChanceWorks.NONE, 0), -4);
        Check.due("value(1, NONE, 1)", x.value(1, ChanceWorks.NONE, 1), 0);
        Check.due("value(1, NONE, 2)", x.value(1, ChanceWorks.NONE, 2), 1);
        Check.due("value(2, NONE, 2)", x.value(2, ChanceWorks.NONE, 2), 0);
        Check.due("explore(3)", x.explore(3), -1);
        counts(x, 1, 1, 1, 3, 0, 0, 0, 0, 0, 0, 0, 0);
        Check.due("state(0, 0) then", Check.of(() -> x.state(0, 0)), "IndexOutOfBoundsException");
    }

    private static void joined() {
        ChanceWorks x = Check.explored("var v; func main() { v ~ { 3 : 1, 5 : 0, 4 : 2, 3 : 4, 1 / 1 : 0 }; v = 0; return 7; }");
        counts(x, 1, 0, 1, 3, 4, 1, 5);
        state(x, 0, 0, 1, 2, 0, 0, 7);
        next(x, 0, 0, 0, 1, 5);
        next(x, 0, 1, 0, 2, 2);
        next(x, 1, 0, 0, 3, 1);
        next(x, 2, 0, 0, 3, 1);
        next(x, 3, 0, 1, 0, 1);
        Check.due("ending(0, NONE)", x.ending(0, -1), 7);
        Check.due("ending(0, 0)", x.ending(0, 0), 0);
        ChanceWorks y = Check.explored("var v; func main() { v ~ pick(3); }");
        counts(y, 1, 0, 1, 1, 1, 3, 3);
        next(y, 0, 2, 1, 2, 1);
        Check.due("ending(2, 0)", y.ending(2, 0), 2);
        Check.due("ending(2, NONE)", y.ending(2, -1), 0);
        ChanceWorks z = Check.explored("func f() { local k = 0; k ~ pick(64); } func main() { f(); }");
        counts(z, 0, 0, 2, 3, 3, 1, 3);
        next(z, 2, 0, 1, 0, 64);
        state(z, 2, 1, 2, 1, 0, 0, 64);
    }

    private static void calls() {
        ChanceWorks x = Check.explored("var g; func f(p, q) { local r = 3; g = p; return q; } func main() { local a = 1; local b = 0; b = f(a + 1, 9); return b; }");
        Check.due("states", x.count(4), 7);
        state(x, 3, 0, 2, 1, 0, 0, 1);
        Check.due("main waits", x.value(3, 0, 0), 1);
        Check.due("a name", x.value(3, 1, 0), 2);
        Check.due("the other name", x.value(3, 1, 1), 9);
        Check.due("a local before its statement", x.value(3, 1, 2), 0);
        Check.due("a local behind it", x.value(4, 1, 2), 3);
        Check.due("no such variable of f", Check.of(() -> x.value(3, 1, 3)), "IndexOutOfBoundsException");
        Check.due("no such variable of main", Check.of(() -> x.value(3, 0, 2)), "IndexOutOfBoundsException");
        Check.due("no such call", Check.of(() -> x.value(2, 1, 0)), "IndexOutOfBoundsException");
        state(x, 6, 6, 1, 1, 0, 0, 1);
        Check.due("what f returned", x.value(6, 0, 1), 9);
        next(x, 6, 0, 1, 0, 1);
        Check.due("g in the ending", x.ending(0, 0), 2);
        Check.due("the ending's number", x.ending(0, -1), 9);
    }

    private static void rings() {
        ChanceWorks x = Check.explored("var v; func main() { v ~ pick(3); if v == 0 { while 1 { } } if v == 1 { while 1 { v = 1; } } while v == 2 { v ~ pick(4); } }");
        Check.due("rings", x.count(7), 3);
        Check.due("the greatest", x.count(8), 2);
        Check.due("hopeless", x.count(10), 6);
        Check.due("hopeless, one by one", hopeless(x), 6);
        ChanceWorks y = Check.explored("func main() { while 1 { } }");
        counts(y, 0, 0, 1, 1, 1, 0, 1, 1, 1, 0, 1);
        state(y, 0, 0, 1, 1, 0, 1, 1);
        next(y, 0, 0, 0, 0, 1);
        ChanceWorks z = Check.explored("var c; func main() { while 1 { c = choose(2); if c { return 1; } } }");
        Check.due("one ring by what is chosen", z.count(7), 1);
        Check.due("none hopeless by what is chosen", z.count(10), 0);
    }

    private static long hopeless(ChanceWorks x) {
        long many = 0;
        for (int k = 0; k < x.count(4); k++) {
            many += x.state(k, 4);
        }
        return many;
    }

    private static void choices() {
        ChanceWorks x = Check.explored("var c; func main() { c = choose(3); c = 0; c = choose(9); }");
        counts(x, 1, 0, 1, 3, 5, 0, 7, 0, 0, 1, 0);
        state(x, 0, 0, 1, 3, 1, 0, 0);
        next(x, 0, 0, 0, 1, 1);
        next(x, 0, 2, 0, 3, 1);
        state(x, 4, 2, 1, 1, 0, 0, 1);
        next(x, 4, 0, 2, 5, 1);
        ChanceWorks y = Check.explored("func f() { local k = 0; k = choose(4); } func main() { f(); }");
        Check.due("chosen nexts are not joined", y.state(2, 2), 4);
        next(y, 2, 3, 1, 0, 1);
        ChanceWorks z = Check.explored("var c; func main() { c = choose(1); return c; }");
        state(z, 0, 0, 1, 1, 1, 0, 0);
    }

    private static void empty() {
        ChanceWorks x = Check.house("var v = 6; arr a[1]; func main() { }");
        Check.due("explore(1)", x.explore(1), 0);
        counts(x, 1, 1, 1, 0, 0, 1, 0, 0, 0, 0, 0);
        Check.due("ending(0, NONE)", x.ending(0, -1), 0);
        Check.due("ending(0, 0)", x.ending(0, 0), 6);
        Check.due("ending(0, 1)", x.ending(0, 1), 0);
        Check.due("solve()", x.solve(), 0);
        Check.due("the weight", Check.show(x, 2, 0), "1/1");
        Check.due("the visits", Check.show(x, 9, 0), "0/1");
        Check.due("lost", Check.show(x, 5, 0), "0/1");
        Check.due("the odds of 0", Check.show(x, 0, 0), "1/1");
        Check.due("best()", x.best(), 0);
        Check.due("show(11, 0)", Check.of(() -> x.show(11, 0)), "IndexOutOfBoundsException");
        Check.due("state(0, 0)", Check.of(() -> x.state(0, 0)), "IndexOutOfBoundsException");
        Check.due("play(1, 0)", x.play(1, 0), 1);
        Check.due("played(2)", x.played(2), 0);
        Check.due("played(5)", x.played(5), 6);
    }

    private static void limits() {
        ChanceWorks x = Check.house("var v; func main() { while v < 499 { v = v + 1; } }");
        Check.due("explore(998)", x.explore(998), -1);
        Check.due("explore(999)", x.explore(999), 999);
        ChanceWorks y = Check.house("var v; var w; func main() { v ~ pick(25); w ~ pick(40); }");
        Check.due("1000 endings", y.explore(26), 26);
        Check.due("count(5)", y.count(5), 1000);
        ChanceWorks z = Check.house("var v; var w; func main() { v ~ { 1:1, 2:1, 3:1 }; w = v; v = w; v ~ pick(16); w ~ pick(63); }");
        Check.due("1008 endings", z.explore(1000), -1);
        Check.due("count(5)", z.count(5), 0);
        ChanceWorks a = Check.house("var i; var v; func main() { while i < 5 { v ~ pick(64); i = i + 1; } return v; }");
        Check.due("17217 nexts and less", a.explore(1000), 962);
        ChanceWorks b = Check.house("var v; func f(n) { v ~ pick(64); if n { f(n - 1); } } func main() { f(6); }");
        Check.due("more than 20000 nexts, or 1000 states", b.explore(1000), -1);
    }

    private static void wrong() {
        ChanceWorks x = Check.explored("var v; arr a[2]; func main() { local k = 0; v ~ pick(2); return v; }");
        for (int what : new int[] {-1, 12, Integer.MAX_VALUE, Integer.MIN_VALUE}) {
            Check.due("count(" + what + ")", Check.of(() -> x.count(what)), "IndexOutOfBoundsException");
        }
        Check.due("explore(0)", Check.of(() -> x.explore(0)), "IllegalArgumentException");
        Check.due("explore(1001)", Check.of(() -> x.explore(1001)), "IllegalArgumentException");
        Check.due("what was explored stays", x.count(4), 4);
        for (int k : new int[] {-1, 4, Integer.MAX_VALUE, Integer.MIN_VALUE}) {
            Check.due("state(" + k + ", 0)", Check.of(() -> x.state(k, 0)), "IndexOutOfBoundsException");
            Check.due("value(" + k + ", 0, 0)", Check.of(() -> x.value(k, 0, 0)), "IndexOutOfBoundsException");
            Check.due("next(" + k + ", 0, 0)", Check.of(() -> x.next(k, 0, 0)), "IndexOutOfBoundsException");
            Check.due("ending(" + k + ", 0)", Check.of(() -> x.ending(k, 0)), "IndexOutOfBoundsException");
            Check.due("value(0, " + k + " less 1, 0)", Check.of(() -> x.value(0, k == 4 ? 1 : k - 1, 0)), "IndexOutOfBoundsException");
            Check.due("value(0, 0, " + k + ")", Check.of(() -> x.value(0, 0, k)), "IndexOutOfBoundsException");
            Check.due("value(0, NONE, " + k + ")", Check.of(() -> x.value(0, -1, k)), "IndexOutOfBoundsException");
            Check.due("next(0, " + k + ", 0)", Check.of(() -> x.next(0, k, 0)), "IndexOutOfBoundsException");
            Check.due("next(0, 0, " + k + ")", Check.of(() -> x.next(0, 0, k)), "IndexOutOfBoundsException");
            Check.due("ending(0, " + k + " less 1)", Check.of(() -> x.ending(0, k == 4 ? 3 : k - 1)), "IndexOutOfBoundsException");
        }
        Check.due("value(0, NONE, 3)", Check.of(() -> x.value(0, -1, 3)), "IndexOutOfBoundsException");
        Check.due("state(0, -1)", Check.of(() -> x.state(0, -1)), "IndexOutOfBoundsException");
        Check.due("state(0, 6)", Check.of(() -> x.state(0, 6)), "IndexOutOfBoundsException");
        Check.due("next(0, 0, 3)", Check.of(() -> x.next(0, 0, 3)), "IndexOutOfBoundsException");
    }
}
