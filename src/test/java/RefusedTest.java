import java.util.function.Supplier;

/**
 * Each call that a promise refuses: it throws the exception that is named (the first of those that would do), and
 * leaves a house that is the same, in all that can be asked, as a twin that was never asked so.
 */
public final class RefusedTest {
    private static final String ARGUMENT = "IllegalArgumentException";
    private static final String STATE = "IllegalStateException";
    private static final String INDEX = "IndexOutOfBoundsException";
    private static final String ROOM = "UnsupportedOperationException";
    private static final int LEAST = Integer.MIN_VALUE;
    private static final int MOST = Integer.MAX_VALUE;
    /** Two vars and two cells, 15 states (of which 1 and 2 choose), 4 endings. */
    private static final String TEXT = "var v ; var c ; arr a [ 2 ] ; func main ( ) { v ~ pick ( 2 ) ; c = choose ( 2 ) ; gain c - v ; a [ 1 ] = v ; return c ; }";

    /** A call of a house. */
    private interface Asked {
        long of(ChanceWorks x);
    }

    public static void main(String[] args) {
        feed();
        end();
        count();
        explore();
        state();
        value();
        valuesOfCalls();
        next();
        ending();
        decide();
        decided();
        best();
        solve();
        showKinds();
        showWhatIsNotSolved();
        showWhatIsNotKept();
        showIndexes();
        sizeAndLimb();
        tell();
        play();
        walk();
        played();
        independent();
        given();
        Check.end();
    }

    private static ChanceWorks house() {
        ChanceWorks x = Check.house(TEXT);
        x.tell(1);
        Check.feed(x, "func main ( ) { gain 1 ; } ");
        return x;
    }

    private static ChanceWorks explored() {
        ChanceWorks x = house();
        x.explore(1000);
        x.decide(1, 1);
        x.play(7, 3);
        return x;
    }

    /** A house that has all that can be asked for, a fault of its latest text too. */
    private static ChanceWorks full() {
        ChanceWorks x = Check.house(TEXT);
        Check.program(x, "var y ; }");
        x.explore(1000);
        x.best();
        x.decide(2, 1);
        x.solve();
        x.play(7, 3);
        x.tell(1);
        x.show(0, 1);
        Check.feed(x, "func main ( ) { gain 1 ; } ");
        return x;
    }

    private static void refused(String what, String exception, Supplier<ChanceWorks> made, Asked call) {
        ChanceWorks x = made.get();
        Check.due(what, Check.of(() -> call.of(x)), exception);
        new Portrait(x).differsIn(what, new Portrait(made.get()));
    }

    private static void refused(String what, String exception, Asked call) {
        refused(what, exception, RefusedTest::full, call);
    }

    private static void taken(String what, Asked call, long want) {
        ChanceWorks x = full();
        Check.due(what, Check.of(() -> call.of(x)), Long.toString(want));
    }

    private static ChanceWorks long_(int bytes) {
        ChanceWorks x = Check.house("func main ( ) { }");
        Check.feed(x, "func main ( ) { gain 1 ; }" + " ".repeat(bytes - 26));
        return x;
    }

    private static void feed() {
        ChanceWorks x = long_(65516);
        Check.due("feed() of the last twenty bytes", x.feed(0x20202020, 0x20202020, 0x20202020, 0x20202020, 0x20202020), 65536);
        Check.due("program() of 65536 bytes", x.program(), 1);
        refused("feed() with 65517 bytes", ROOM, () -> long_(65517), y -> y.feed(1, 2, 3, 4, 5));
        refused("feed() with 65536 bytes", ROOM, () -> {
            ChanceWorks y = long_(65516);
            y.feed(0x20202020, 0x20202020, 0x20202020, 0x20202020, 0x23202020);
            return y;
        }, y -> y.feed(1, 2, 3, 4, 5));
    }

    private static long end(ChanceWorks x, int n) {
        x.end(n);
        return x.count(11);
    }

    private static void end() {
        taken("end(0)", x -> end(x, 0), 0);
        taken("end(27), as many as there are", x -> end(x, 27), 27);
        for (int n : new int[] {-1, 28, LEAST, MOST}) {
            refused("end(" + n + ")", ARGUMENT, x -> end(x, n));
        }
        refused("end(1) of an empty tape", ARGUMENT, ChanceWorks::new, x -> end(x, 1));
        refused("end(-1) of an empty tape", ARGUMENT, ChanceWorks::new, x -> end(x, -1));
        ChanceWorks y = new ChanceWorks();
        Check.due("end(0) of an empty tape", end(y, 0), 0);
        Check.feed(y, "func main ( ) { gain 1 ; } }");
        Check.due("the tape keeps its first bytes", end(y, 27), 27);
        Check.due("end(28) then", Check.of(() -> end(y, 28)), ARGUMENT);
        Check.due("program() of what is kept", y.program(), 1);
        Check.due("end(1) behind program()", Check.of(() -> end(y, 1)), ARGUMENT);
    }

    private static void count() {
        taken("count(0)", x -> x.count(0), 2);
        taken("count(11)", x -> x.count(11), 27);
        for (int what : new int[] {-1, 12, LEAST, MOST}) {
            refused("count(" + what + ")", INDEX, x -> x.count(what));
            refused("count(" + what + ") of a new object", INDEX, ChanceWorks::new, x -> x.count(what));
        }
    }

    private static void explore() {
        taken("explore(1000)", x -> x.explore(1000), 15);
        taken("explore(1)", x -> x.explore(1), -1);
        for (int most : new int[] {0, -1, 1001, LEAST, MOST}) {
            refused("explore(" + most + ")", ARGUMENT, x -> x.explore(most));
            refused("explore(" + most + ") without a program", STATE, ChanceWorks::new, x -> x.explore(most));
        }
        refused("explore(1) without a program", STATE, ChanceWorks::new, x -> x.explore(1));
    }

    private static void state() {
        taken("state(0, 0)", x -> x.state(0, 0), 0);
        taken("state(14, 5), the last", x -> x.state(14, 5), 1);
        for (int k : new int[] {-1, 15, LEAST, MOST}) {
            refused("state(" + k + ", 0)", INDEX, x -> x.state(k, 0));
        }
        for (int what : new int[] {-1, 6, LEAST, MOST}) {
            refused("state(0, " + what + ")", INDEX, x -> x.state(0, what));
        }
        refused("state(0, 0) before explore()", INDEX, RefusedTest::house, x -> x.state(0, 0));
        refused("state(0, 0) without a program", INDEX, ChanceWorks::new, x -> x.state(0, 0));
    }

    private static void value() {
        taken("value(0, NONE, 0)", x -> x.value(0, -1, 0), 0);
        taken("value(14, NONE, 3), the last cell", x -> x.value(14, -1, 3), 1);
        for (int k : new int[] {-1, 15, LEAST, MOST}) {
            refused("value(" + k + ", NONE, 0)", INDEX, x -> x.value(k, -1, 0));
        }
        for (int i : new int[] {-1, 4, LEAST, MOST}) {
            refused("value(0, NONE, " + i + ")", INDEX, x -> x.value(0, -1, i));
        }
        for (int c : new int[] {-2, 0, 1, LEAST, MOST}) {
            refused("value(0, " + c + ", 0)", INDEX, x -> x.value(0, c, 0));
        }
        refused("value(0, NONE, 0) before explore()", INDEX, RefusedTest::house, x -> x.value(0, -1, 0));
    }

    /** Variables of open calls: the last of each, and one more; the last call, and one more. */
    private static void valuesOfCalls() {
        String text = "func f ( p , q ) { local r = p + q ; return r ; } func main ( ) { local k = 5 ; k = f ( k , 6 ) ; }";
        ChanceWorks x = Check.explored(text);
        Check.due("value(3, 0, 0), of main", x.value(3, 0, 0), 5);
        Check.due("value(3, 1, 0), of f", x.value(3, 1, 0), 5);
        Check.due("value(3, 1, 1), its second", x.value(3, 1, 1), 6);
        Check.due("value(3, 1, 2), its last", x.value(3, 1, 2), 11);
        int[][] wrong = {{3, 0, 1}, {3, 0, -1}, {3, 1, 3}, {3, 1, -1}, {3, 2, 0}, {3, -2, 0}, {3, -1, 0}, {1, 1, 0}, {0, 0, 1}, {3, 1, MOST}, {3, MOST, 0}};
        for (int[] w : wrong) {
            refused("value(" + w[0] + ", " + w[1] + ", " + w[2] + ")", INDEX, () -> Check.explored(text), y -> y.value(w[0], w[1], w[2]));
        }
        Check.due("value(0, 0, 0), a local before its statement", x.value(0, 0, 0), 0);
    }

    private static void next() {
        taken("next(0, 0, 0)", x -> x.next(0, 0, 0), 0);
        taken("next(0, 1, 2), the last", x -> x.next(0, 1, 2), 1);
        taken("next(14, 0, 1), of the last state", x -> x.next(14, 0, 1), 3);
        for (int k : new int[] {-1, 15, LEAST, MOST}) {
            refused("next(" + k + ", 0, 0)", INDEX, x -> x.next(k, 0, 0));
        }
        for (int i : new int[] {-1, 2, LEAST, MOST}) {
            refused("next(0, " + i + ", 0)", INDEX, x -> x.next(0, i, 0));
        }
        refused("next(14, 1, 0)", INDEX, x -> x.next(14, 1, 0));
        for (int what : new int[] {-1, 3, LEAST, MOST}) {
            refused("next(0, 0, " + what + ")", INDEX, x -> x.next(0, 0, what));
        }
        refused("next(0, 0, 0) before explore()", INDEX, RefusedTest::house, x -> x.next(0, 0, 0));
    }

    private static void ending() {
        taken("ending(0, NONE)", x -> x.ending(0, -1), 0);
        taken("ending(3, 3), the last cell of the last", x -> x.ending(3, 3), 1);
        for (int k : new int[] {-1, 4, LEAST, MOST}) {
            refused("ending(" + k + ", NONE)", INDEX, x -> x.ending(k, -1));
        }
        for (int i : new int[] {-2, 4, LEAST, MOST}) {
            refused("ending(0, " + i + ")", INDEX, x -> x.ending(0, i));
        }
        refused("ending(0, NONE) before explore()", INDEX, RefusedTest::house, x -> x.ending(0, -1));
    }

    private static void decide() {
        taken("decide(1, 0)", x -> x.decide(1, 0), 1);
        taken("decide(2, 1), the last", x -> x.decide(2, 1), 1);
        for (int k : new int[] {-1, 0, 3, 15, LEAST, MOST}) {
            refused("decide(" + k + ", 0)", INDEX, x -> x.decide(k, 0));
        }
        for (int c : new int[] {-1, 2, LEAST, MOST}) {
            refused("decide(1, " + c + ")", INDEX, x -> x.decide(1, c));
        }
        refused("decide(1, 0) before explore()", INDEX, RefusedTest::house, x -> x.decide(1, 0));
    }

    private static void decided() {
        taken("decided(1)", x -> x.decided(1), 1);
        taken("decided(2)", x -> x.decided(2), 1);
        for (int k : new int[] {-1, 0, 3, 15, LEAST, MOST}) {
            refused("decided(" + k + ")", INDEX, x -> x.decided(k));
        }
        refused("decided(1) before explore()", INDEX, RefusedTest::house, x -> x.decided(1));
    }

    private static void best() {
        taken("best()", x -> x.best(), 0);
        refused("best() before explore()", STATE, RefusedTest::house, x -> x.best());
        refused("best() without a program", STATE, ChanceWorks::new, x -> x.best());
    }

    private static void solve() {
        taken("solve()", x -> x.solve(), 0);
        refused("solve() before explore()", STATE, RefusedTest::house, x -> x.solve());
        refused("solve() without a program", STATE, ChanceWorks::new, x -> x.solve());
    }

    private static void showKinds() {
        taken("show(0, 1)", x -> x.show(0, 1), 1);
        taken("show(12, 0)", x -> x.show(12, 0), 1);
        for (int kind : new int[] {-1, 13, LEAST, MOST}) {
            refused("show(" + kind + ", 0)", ARGUMENT, x -> x.show(kind, 0));
            refused("show(" + kind + ", -1) of a new object", ARGUMENT, ChanceWorks::new, x -> x.show(kind, -1));
        }
    }

    private static void showWhatIsNotSolved() {
        for (int k = 0; k <= 12; k++) {
            int kind = k;
            refused("show(" + kind + ", 0) of a new object", STATE, ChanceWorks::new, x -> x.show(kind, 0));
            refused("show(" + kind + ", -1) before explore()", STATE, RefusedTest::house, x -> x.show(kind, -1));
            if (kind < 12) {
                refused("show(" + kind + ", -1) before solve() and best()", STATE, RefusedTest::explored, x -> x.show(kind, -1));
            }
        }
        ChanceWorks x = explored();
        Check.due("show(12, -1) before solve()", x.show(12, -1), 1);
    }

    private static ChanceWorks solved(String text) {
        ChanceWorks x = Check.solved(text);
        x.show(4, 0);
        return x;
    }

    private static void showWhatIsNotKept() {
        String cut = "func main ( ) { observe 0 ; }";
        refused("show(0, 0) where KEPT is 0", STATE, () -> solved(cut), x -> x.show(0, 0));
        refused("show(1, 0) where KEPT is 0", STATE, () -> solved(cut), x -> x.show(1, 0));
        refused("show(10, 0) where KEPT is 0", STATE, () -> solved(cut), x -> x.show(10, 0));
        String fails = "var v ; func main ( ) { v ~ pick ( 2 ) ; observe v ; gain 1 / 0 ; }";
        refused("show(10, 0) where nothing ENDS", STATE, () -> solved(fails), x -> x.show(10, 0));
        Check.due("show(0, 0) where nothing ENDS", solved(fails).show(0, 0), 0);
        Check.due("show(1, 2) where nothing ENDS", solved(fails).show(1, 2), 1);
    }

    private static void showIndexes() {
        taken("show(2, 0)", x -> x.show(2, 0), 0);
        taken("show(2, 3), the last", x -> x.show(2, 3), 1);
        for (int v : new int[] {-1, 4, LEAST, MOST}) {
            refused("show(2, " + v + ")", INDEX, x -> x.show(2, v));
        }
        taken("show(8, 0)", x -> x.show(8, 0), 1);
        taken("show(8, 14), the last", x -> x.show(8, 14), 1);
        taken("show(11, 0)", x -> x.show(11, 0), 1);
        taken("show(11, 14), the last", x -> x.show(11, 14), 0);
        for (int v : new int[] {-1, 15, LEAST, MOST}) {
            refused("show(8, " + v + ")", INDEX, x -> x.show(8, v));
            refused("show(11, " + v + ")", INDEX, x -> x.show(11, v));
        }
    }

    private static void sizeAndLimb() {
        taken("size(0)", x -> x.size(0), 1);
        taken("size(1)", x -> x.size(1), 1);
        taken("limb(0, 0)", x -> x.limb(0, 0), 1);
        taken("limb(1, 0)", x -> x.limb(1, 0), 1);
        for (int part : new int[] {-1, 2, LEAST, MOST}) {
            refused("size(" + part + ")", INDEX, x -> x.size(part));
            refused("limb(" + part + ", 0)", INDEX, x -> x.limb(part, 0));
        }
        for (int i : new int[] {-1, 1, LEAST, MOST}) {
            refused("limb(0, " + i + ")", INDEX, x -> x.limb(0, i));
            refused("limb(1, " + i + ")", INDEX, x -> x.limb(1, i));
        }
        refused("limb(0, 0) of 0 / 1", INDEX, ChanceWorks::new, x -> x.limb(0, 0));
    }

    private static ChanceWorks toldAll() {
        ChanceWorks x = house();
        for (int n = 2; n <= 200; n++) {
            x.tell(n % 2);
        }
        return x;
    }

    private static void tell() {
        taken("tell() of one more", x -> x.tell(LEAST), 2);
        Check.due("tell() of the 200th", toldAll().forget(), 200);
        refused("tell() of one more than 200", ROOM, RefusedTest::toldAll, x -> x.tell(0));
    }

    private static void play() {
        taken("play(0, 0)", x -> x.play(0, 0), 0);
        taken("play(0, 2000)", x -> x.play(0, 2000), 1);
        for (int most : new int[] {-1, 2001, LEAST, MOST}) {
            refused("play(0, " + most + ")", ARGUMENT, x -> x.play(0, most));
            refused("play(0, " + most + ") without a program", STATE, ChanceWorks::new, x -> x.play(0, most));
        }
        refused("play(0, 0) without a program", STATE, ChanceWorks::new, x -> x.play(0, 0));
    }

    private static void walk() {
        taken("walk(0)", x -> x.walk(0), 0);
        taken("walk(2000)", x -> x.walk(2000), 1);
        for (int most : new int[] {-1, 2001, LEAST, MOST}) {
            refused("walk(" + most + ")", ARGUMENT, x -> x.walk(most));
            refused("walk(" + most + ") without a program", STATE, ChanceWorks::new, x -> x.walk(most));
        }
        refused("walk(0) without a program", STATE, ChanceWorks::new, x -> x.walk(0));
    }

    private static void played() {
        taken("played(0)", x -> x.played(0), 0);
        taken("played(8), the last cell", x -> x.played(8), 0);
        for (int what : new int[] {-1, 9, LEAST, MOST}) {
            refused("played(" + what + ")", INDEX, x -> x.played(what));
        }
        refused("played(9) before a play", INDEX, RefusedTest::house, x -> x.played(9));
        refused("played(5) without a program", INDEX, ChanceWorks::new, x -> x.played(5));
    }

    private static void independent() {
        taken("independent(0, 0)", x -> x.independent(0, 0) ? 1 : 0, 0);
        taken("independent(3, 3), the last", x -> x.independent(3, 3) ? 1 : 0, 0);
        taken("independent(2, 3)", x -> x.independent(2, 3) ? 1 : 0, 1);
        for (int i : new int[] {-1, 4, LEAST, MOST}) {
            refused("independent(" + i + ", 0)", INDEX, x -> x.independent(i, 0) ? 1 : 0);
            refused("independent(0, " + i + ")", INDEX, x -> x.independent(0, i) ? 1 : 0);
            refused("independent(" + i + ", 0) before solve()", STATE, RefusedTest::explored, x -> x.independent(i, 0) ? 1 : 0);
        }
        refused("independent(0, 0) before solve()", STATE, RefusedTest::explored, x -> x.independent(0, 0) ? 1 : 0);
        refused("independent(0, 0) of a new object", STATE, ChanceWorks::new, x -> x.independent(0, 0) ? 1 : 0);
    }

    private static void given() {
        taken("given(0, 0, 0)", x -> x.given(0, 0, 0) ? 1 : 0, 1);
        taken("given(3, 3, 3), the last", x -> x.given(3, 3, 3) ? 1 : 0, 1);
        taken("given(0, 3, 2)", x -> x.given(0, 3, 2) ? 1 : 0, 0);
        for (int i : new int[] {-1, 4, LEAST, MOST}) {
            refused("given(" + i + ", 0, 0)", INDEX, x -> x.given(i, 0, 0) ? 1 : 0);
            refused("given(0, " + i + ", 0)", INDEX, x -> x.given(0, i, 0) ? 1 : 0);
            refused("given(0, 0, " + i + ")", INDEX, x -> x.given(0, 0, i) ? 1 : 0);
            refused("given(0, 0, " + i + ") before solve()", STATE, RefusedTest::explored, x -> x.given(0, 0, i) ? 1 : 0);
        }
        refused("given(0, 0, 0) of a new object", STATE, ChanceWorks::new, x -> x.given(0, 0, 0) ? 1 : 0);
    }
}
