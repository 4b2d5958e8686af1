/** What is gone and what stays after each call that changes something: every other part of the house must be as it was. */
public final class StaysTest {
    private static final String TEXT = "var v ; var c ; func main ( ) { v ~ pick ( 2 ) ; c = choose ( 2 ) ; gain c - v ; observe v + c ; return c ; }";
    /** Visits of 240 bits, and a worth of 257. */
    private static final String LONG_WORTH = "var v ; var c ; func main ( ) { c = choose ( 2 ) ; "
            + "v ~ flip ( 1 , 999999 ) ; if v { return 0 ; } ".repeat(12) + "gain 131071 ; }";
    /** Visits of 257 bits, and a worth of 0. */
    private static final String LONG_VISITS = "var v ; var c ; func main ( ) { c = choose ( 2 ) ; "
            + "v ~ flip ( 1 , 999999 ) ; if v { return 0 ; } ".repeat(12) + "v ~ flip ( 1 , 1 ) ; if v { return 0 ; } ".repeat(17) + "c = 0 ; }";
    private static final String RING = "var v ; var c ; func main ( ) { c = choose ( 2 ) ; while v == 0 { v ~ flip ( 1 , 3 ) ; } return c ; }";
    /** A ring of 36 by the plan that takes 0 everywhere, none by the plan that takes 1. */
    private static final String LONG_RING = "var v ; var c ; func main ( ) { while v < 99 { v ~ { ( v + 1 ) % 9 : 9 , 99 : 1 } ; "
            + "c = choose ( 2 ) ; if c { v = 99 ; } } return c ; }";

    /** What is done to a house. */
    private interface Deed {
        void to(ChanceWorks x);
    }

    public static void main(String[] args) {
        programWithAFault();
        programWithoutAFault();
        programOfTheSameText();
        programAfterAFault();
        feedAndEnd();
        exploreAgain();
        exploreThatIsSpent();
        decisions();
        bestThatIsMade();
        bestWithARing();
        bestWithManyBits();
        solveAgain();
        solveWithARing();
        solveWithManyBits();
        shows();
        tellAndForget();
        plays();
        askingChangesNothing();
        Check.end();
    }

    /** A house that has all: a plan, worths, what is solved, a play, told draws, something shown, a tape, no fault. */
    private static ChanceWorks full(String text) {
        ChanceWorks x = Check.explored(text);
        x.best();
        planAll(x, 1);
        x.solve();
        x.play(3, 4);
        x.tell(1);
        x.tell(0);
        x.show(12, 0);
        Check.feed(x, "func main ( ) { gain 1 ; gain 2 ; } ");
        return x;
    }

    private static Portrait after(String text, Deed deed) {
        ChanceWorks x = full(text);
        deed.to(x);
        return new Portrait(x);
    }

    private static void changes(String what, String text, Deed deed, String... parts) {
        after(text, deed).differsIn(what, new Portrait(full(text)), parts);
    }

    private static void changes(String what, Deed deed, String... parts) {
        changes(what, TEXT, deed, parts);
    }

    private static void programWithAFault() {
        Deed deed = x -> {
            Check.feed(x, "}");
            Check.due("program() with a fault", x.program(), -37);
            Check.due("its code", x.fault(), 2);
        };
        changes("program() with a fault", deed, "fault", "tape");
        Check.due("the tape is empty", after(TEXT, deed).part("tape").substring(0, 7), "0 -1 17");
        changes("program() of an empty tape", x -> {
            x.end(0);
            Check.due("program() of an empty tape", x.program(), -1);
        }, "fault", "tape");
    }

    private static void programWithoutAFault() {
        Deed deed = x -> Check.due("program()", x.program(), 2);
        // The walk of the new program draws nothing, so what is told shows only by its number.
        changes("program()", deed, "program", "explored", "plan", "played", "odds of the play", "solved", "worths", "told", "tape");
        Check.due("nothing is explored", after(TEXT, deed).part("explored"), "0 0 0 0 0 0 0 ");
        Check.due("nothing is played", after(TEXT, deed).part("odds of the play"), "IllegalStateException");
        Check.due("there is no worth", after(TEXT, deed).part("worths"), "IllegalStateException");
        Check.due("two are told", after(TEXT, deed).part("told").endsWith("2") ? 1 : 0, 1);
        Check.due("the tape is empty", after(TEXT, deed).part("tape").substring(0, 7), "0 -1 17");
    }

    private static void programOfTheSameText() {
        Deed deed = x -> {
            x.end(0);
            Check.program(x, TEXT);
        };
        // The plan is gone, so the walk of the told draws chooses otherwise.
        changes("program() of the same text", deed, "explored", "plan", "played", "odds of the play", "solved", "worths", "told", "tape");
        changes("program() of the same text, explored again", x -> {
            deed.to(x);
            x.explore(1000);
        }, "plan", "played", "odds of the play", "solved", "worths", "told", "tape");
    }

    private static void programAfterAFault() {
        ChanceWorks x = Check.house(TEXT);
        Check.due("a fault", Check.program(x, "var"), -4);
        Check.due("its code", x.fault(), 2);
        Check.due("another fault", Check.program(x, "@"), -1);
        Check.due("its code", x.fault(), 1);
        Check.due("the program stays", x.count(3), 5);
        Check.due("it can be explored", x.explore(1000), 14);
        Check.due("a program", Check.program(x, "func main ( ) { }"), 0);
        Check.due("no code", x.fault(), 0);
        ChanceWorks y = new ChanceWorks();
        Check.due("a fault of the first program", Check.program(y, "var"), -4);
        Check.due("there is none still", Check.of(() -> y.explore(1)), "IllegalStateException");
        Check.due("none to play", Check.of(() -> y.play(0, 0)), "IllegalStateException");
    }

    private static void feedAndEnd() {
        changes("feed", x -> Check.due("feed", x.feed(0, 0, 0, 0, 0), 56), "tape");
        changes("end(0)", x -> x.end(0), "tape");
        changes("end(35)", x -> x.end(35), "tape");
        changes("end(36), of all", x -> x.end(36));
    }

    private static void exploreAgain() {
        Deed deed = x -> Check.due("explore(14)", x.explore(14), 14);
        changes("explore()", deed, "plan", "solved", "worths", "told");
        Check.due("the plan takes 0 everywhere", after(TEXT, deed).part("plan"), "0 0 ");
        Check.due("there is no worth", after(TEXT, deed).part("worths").startsWith("IllegalStateException") ? 1 : 0, 1);
    }

    private static void exploreThatIsSpent() {
        Deed deed = x -> Check.due("explore(13)", x.explore(13), -1);
        changes("explore() that is SPENT", deed, "explored", "plan", "solved", "worths", "told");
        Check.due("nothing is explored", after(TEXT, deed).part("explored"), "0 0 0 0 0 0 0 ");
        changes("explore() that is SPENT, then one that is not", x -> {
            deed.to(x);
            x.explore(1000);
        }, "plan", "solved", "worths", "told");
    }

    private static void decisions() {
        changes("decide(1, 0)", x -> Check.due("decide(1, 0)", x.decide(1, 0), 1), "plan", "solved");
        changes("decide(2, 0)", x -> Check.due("decide(2, 0)", x.decide(2, 0), 1), "plan", "solved", "told");
        changes("decide(2, 1), as it was", x -> Check.due("decide(2, 1)", x.decide(2, 1), 1), "solved");
        changes("decide(2, 0) and back, and solve()", x -> {
            x.decide(2, 0);
            x.decide(2, 1);
            x.solve();
        });
    }

    private static void bestThatIsMade() {
        changes("best() that finds the plan as it is", x -> Check.due("best()", x.best(), 0), "solved");
        changes("best() after decide()", x -> {
            x.decide(2, 0);
            x.solve();
            Check.due("best()", x.best(), 0);
        }, "solved");
        changes("best() and solve()", x -> {
            x.best();
            x.solve();
        });
    }

    private static void bestWithARing() {
        changes("best() with a ring", RING, x -> Check.due("best()", x.best(), -2));
        Portrait ring = after(RING, x -> Check.due("best()", x.best(), -2));
        Check.due("it is solved still", ring.part("solved").startsWith("0 0:0 / 1:1; 1 1:1 / 1:1") ? 1 : 0, 1);
        Check.due("the plan stays", ring.part("plan"), "1 ");
    }

    private static void bestWithManyBits() {
        changes("best() with many bits", LONG_WORTH, x -> Check.due("best()", x.best(), -3));
        Portrait many = after(LONG_WORTH, x -> Check.due("best()", x.best(), -3));
        Check.due("it is solved still", many.part("solved").startsWith("1 1:1 / 1:1") ? 1 : 0, 1);
        Check.due("the plan stays", many.part("plan"), "1 ");
    }

    private static void solveAgain() {
        changes("solve() again", x -> Check.due("solve()", x.solve(), 0));
    }

    private static void planAll(ChanceWorks x, int c) {
        for (int k = 0; k < x.count(4); k++) {
            if (x.state(k, 3) == 1) {
                x.decide(k, c);
            }
        }
    }

    /** What was solved is gone by decide(): solve() then takes nothing else away. */
    private static void solveWithARing() {
        changes("solve() with a ring of 36", LONG_RING, x -> {
            planAll(x, 0);
            Check.due("solve()", x.solve(), -2);
        }, "plan", "solved", "told");
        changes("solve() with a ring of 36, and one without it", LONG_RING, x -> {
            planAll(x, 0);
            Check.due("solve()", x.solve(), -2);
            planAll(x, 1);
            Check.due("solve()", x.solve(), 0);
        });
    }

    private static void solveWithManyBits() {
        changes("solve() with many bits", LONG_VISITS, x -> Check.due("solve()", x.solve(), -3));
        Portrait many = after(LONG_VISITS, x -> Check.due("solve()", x.solve(), -3));
        Check.due("nothing is solved", many.part("solved").startsWith("IllegalStateException") ? 1 : 0, 1);
        Check.due("the worths of best() stay", many.part("worths").startsWith("0 0:0 / 1:1") ? 1 : 0, 1);
        Check.due("the plan stays", many.part("plan"), "1 ");
    }

    private static void shows() {
        changes("show(6, 0)", x -> x.show(6, 0), "shown");
        changes("show(11, 1)", x -> x.show(11, 1), "shown");
        changes("show(12, 0), as it was", x -> x.show(12, 0));
        changes("size and limb", x -> x.limb(1, x.size(1) - 1));
    }

    private static void tellAndForget() {
        changes("tell(0)", x -> Check.due("tell(0)", x.tell(0), 3), "told");
        changes("forget()", x -> Check.due("forget()", x.forget(), 2), "told");
        changes("forget() and the same told again", x -> {
            x.forget();
            x.tell(1);
            x.tell(0);
        });
    }

    private static void plays() {
        changes("play(3, 3)", x -> x.play(3, 3), "played");
        changes("play(3, 0)", x -> x.play(3, 0), "played", "odds of the play");
        changes("play(3, 4), as it was", x -> x.play(3, 4));
        changes("walk(0)", x -> x.walk(0), "played", "odds of the play");
    }

    private static void askingChangesNothing() {
        changes("what is asked alone", x -> {
            x.fault();
            x.count(4);
            x.state(0, 0);
            x.value(0, -1, 0);
            x.next(0, 0, 0);
            x.ending(0, -1);
            x.decided(1);
            x.played(0);
            x.independent(0, 1);
            x.given(0, 1, 0);
        });
    }
}
