/** Term 3 STATES (promises 6 to 11), sentence by sentence, with the last number that is allowed and the first that is not. */
public final class StateEdgesTest {
    private static final int RING = 7;
    private static final int GREATEST = 8;
    private static final int HOPELESS = 10;

    public static void main(String[] args) {
        noState();
        noVarsEither();
        whatMakesAState();
        weightsOfOne();
        drawsOfWeightZero();
        statesBehindWeightZero();
        drawsThatLeadToTheSame();
        callsThatForgetWhatWasDrawn();
        chosenOnesAreNotJoined();
        numberedAsTheyAreFound();
        asManyStatesAsAsked();
        thousandStates();
        thousandEndings();
        twentyThousandNexts();
        spentByDrawnStates();
        spentLeavesNothing();
        ringsOfOne();
        ringsOfTwo();
        noRings();
        ringsByWhatIsChosen();
        ringsSideBySide();
        hopeless();
        hopelessByAllNexts();
        endingsThatDiffer();
        failuresAndTheCut();
        Check.end();
    }

    private static void counts(String what, ChanceWorks x, int states, int endings, int nexts) {
        Check.due("states of " + what, x.count(4), states);
        Check.due("endings of " + what, x.count(5), endings);
        Check.due("nexts of " + what, x.count(6), nexts);
    }

    private static void next(ChanceWorks x, int k, int i, long what, long number, long weight) {
        Check.due("next(" + k + ", " + i + ", 0)", x.next(k, i, 0), what);
        Check.due("next(" + k + ", " + i + ", 1)", x.next(k, i, 1), number);
        Check.due("next(" + k + ", " + i + ", 2)", x.next(k, i, 2), weight);
    }

    /** A program whose main has no statement: one ending with the vars as at first, whose weight is 1; no visits. */
    private static void noState() {
        ChanceWorks x = Check.house("var v = 6 ; var w = - 7 ; arr a [ 2 ] ; func f ( ) { gain 1 ; } func main ( ) { }");
        Check.due("explore(1)", x.explore(1), 0);
        counts("no statement", x, 0, 1, 0);
        for (int what = RING; what <= HOPELESS; what++) {
            Check.due("count(" + what + ")", x.count(what), 0);
        }
        int[] want = {0, 6, -7, 0, 0};
        for (int i = -1; i < 4; i++) {
            Check.due("ending(0, " + i + ")", x.ending(0, i), want[i + 1]);
        }
        Check.due("state(0, 0)", Check.of(() -> x.state(0, 0)), "IndexOutOfBoundsException");
        Check.due("solve()", x.solve(), 0);
        Check.due("the weight of its ending", Check.show(x, 2, 0), "1/1");
        Check.due("the odds of 0", Check.show(x, 0, 0), "1/1");
        Check.due("the odds of 1", Check.show(x, 0, 1), "0/1");
        Check.due("the odds of failure 1", Check.show(x, 1, 1), "0/1");
        Check.due("the cut", Check.show(x, 4, 0), "0/1");
        Check.due("LOST", Check.show(x, 5, 0), "0/1");
        Check.due("KEPT", Check.show(x, 6, 0), "1/1");
        Check.due("the GAIN", Check.show(x, 7, 0), "0/1");
        Check.due("visits of state 0", Check.of(() -> x.show(8, 0)), "IndexOutOfBoundsException");
        Check.due("visits of all", Check.show(x, 9, 0), "0/1");
        Check.due("what runs END with", Check.show(x, 10, 0), "0/1");
        Check.due("independent(0, 1)", x.independent(0, 1) ? 1 : 0, 1);
        Check.due("given(0, 1, 2)", x.given(0, 1, 2) ? 1 : 0, 1);
        Check.due("best()", x.best(), 0);
        Check.due("the worth of state 0", Check.of(() -> x.show(11, 0)), "IndexOutOfBoundsException");
    }

    private static void noVarsEither() {
        ChanceWorks x = Check.solved("func main ( ) { }");
        Check.due("ending(0, NONE)", x.ending(0, -1), 0);
        Check.due("ending(0, 0)", Check.of(() -> x.ending(0, 0)), "IndexOutOfBoundsException");
        Check.due("independent(0, 0)", Check.of(() -> x.independent(0, 0) ? 1 : 0), "IndexOutOfBoundsException");
    }

    /** Vars, cells, variables of open calls, and what they are AT: states that differ in one of these are two. */
    private static void whatMakesAState() {
        counts("a var", Check.explored("var v ; func main ( ) { v ~ pick ( 2 ) ; v = 0 ; }"), 3, 1, 4);
        counts("a cell", Check.explored("arr a [ 8 ] ; func main ( ) { a [ 7 ] ~ pick ( 2 ) ; a [ 7 ] = 0 ; }"), 3, 1, 4);
        counts("a local", Check.explored("func main ( ) { local k = 0 ; k ~ pick ( 2 ) ; gain 1 ; }"), 4, 1, 5);
        counts("a name", Check.explored("var v ; func f ( p ) { v = 0 ; } func main ( ) { v ~ pick ( 2 ) ; f ( v ) ; }"), 5, 1, 6);
        counts("a variable of a call that waits",
                Check.explored("func f ( ) { gain 1 ; } func main ( ) { local k = 0 ; k ~ pick ( 2 ) ; f ( ) ; }"), 6, 1, 7);
        counts("the eighth variable",
                Check.explored("func f ( p , q , r , s ) { local a = 0 ; local b = 0 ; local c = 0 ; local d = 0 ; d ~ pick ( 2 ) ; gain 1 ; } "
                        + "func main ( ) { f ( 0 , 0 , 0 , 0 ) ; }"), 8, 1, 9);
        // What a call has left behind does not count in the next one.
        counts("a call anew", Check.explored("func f ( p ) { gain 0 ; } func main ( ) { local k = 0 ; while 1 { f ( 5 ) ; k = 0 ; } }"), 5, 0, 5);
    }

    private static void weightsOfOne() {
        ChanceWorks x = Check.explored("var v ; func main ( ) { v = 1 ; gain 1 ; observe 1 ; if 1 { } return 1 ; }");
        for (int k = 0; k < 5; k++) {
            Check.due("the total where nothing is drawn", x.state(k, 5), 1);
            Check.due("the weight where nothing is drawn", x.next(k, 0, 2), 1);
            Check.due("one next alone", x.state(k, 2), 1);
        }
        ChanceWorks y = Check.explored("var v ; func main ( ) { v = choose ( 3 ) ; }");
        Check.due("the total of those chosen", y.state(0, 5), 0);
        for (int i = 0; i < 3; i++) {
            Check.due("the weight of each that is chosen", y.next(0, i, 2), 1);
        }
        ChanceWorks z = Check.explored("var v ; func main ( ) { v ~ { 1 : 5 } ; }");
        Check.due("the total of a draw of one", z.state(0, 5), 5);
        Check.due("its weight", z.next(0, 0, 2), 5);
    }

    private static void drawsOfWeightZero() {
        ChanceWorks x = Check.explored("var v ; func main ( ) { v ~ { 1 : 0 , 2 : 3 , 3 : 0 , 4 : 5 , 5 : 0 } ; }");
        counts("draws of weight 0", x, 1, 2, 2);
        next(x, 0, 0, 1, 0, 3);
        next(x, 0, 1, 1, 1, 5);
        Check.due("the total", x.state(0, 5), 8);
        Check.due("the first ending", x.ending(0, 0), 2);
        ChanceWorks y = Check.explored("var v ; func main ( ) { v ~ flip ( 0 , 7 ) ; }");
        counts("a flip of 0 and 7", y, 1, 1, 1);
        next(y, 0, 0, 1, 0, 7);
        Check.due("what is drawn", y.ending(0, 0), 0);
        ChanceWorks z = Check.explored("var v ; func main ( ) { v ~ flip ( 7 , 0 ) ; }");
        Check.due("what is drawn of 7 and 0", z.ending(0, 0), 1);
        // One with weight 0 and one without that lead to the same.
        ChanceWorks w = Check.explored("var v ; func main ( ) { v ~ { 1 : 0 , 2 : 3 , 1 : 4 } ; }");
        Check.due("the one that weighs stands where it is", w.ending(w.next(0, 1, 1), 0), 1);
        Check.due("with its own weight", w.next(0, 1, 2), 4);
    }

    private static void statesBehindWeightZero() {
        ChanceWorks x = Check.explored("var v ; func main ( ) { v ~ flip ( 0 , 1 ) ; if v { v = 1 / 0 ; } }");
        counts("a state that weight 0 alone leads to", x, 2, 1, 2);
        ChanceWorks y = Check.explored("var v ; func main ( ) { while v == 0 { v ~ { 0 : 0 , 1 : 1 } ; } }");
        Check.due("no ring by weight 0", y.count(RING), 0);
    }

    private static void drawsThatLeadToTheSame() {
        ChanceWorks x = Check.explored("var v ; func main ( ) { v ~ { 3 : 1 , 4 : 2 , 3 : 4 , 5 : 8 , 4 : 16 } ; v = 0 ; }");
        Check.due("nexts", x.state(0, 2), 3);
        next(x, 0, 0, 0, 1, 5);
        next(x, 0, 1, 0, 2, 18);
        next(x, 0, 2, 0, 3, 8);
        Check.due("the total", x.state(0, 5), 31);
        Check.due("where the first one stands", x.value(1, -1, 0), 3);
        ChanceWorks y = Check.explored("var v ; func main ( ) { v ~ { 3 : 1000000 , 3 : 1000000 , 3 : 1 } ; }");
        next(y, 0, 0, 1, 0, 2000001);
        ChanceWorks z = Check.explored("var v = 1 ; func main ( ) { while v { v ~ { 1 : 2 , 0 : 3 , 1 : 4 } ; } }");
        next(z, 1, 0, 0, 0, 6);
        // Two states may lead to the same: these are not joined.
        ChanceWorks w = Check.explored("var v ; func main ( ) { v ~ pick ( 2 ) ; v = 0 ; }");
        counts("two states that lead to the same", w, 3, 1, 4);
    }

    private static void callsThatForgetWhatWasDrawn() {
        ChanceWorks x = Check.explored("func f ( ) { local k = 0 ; k ~ { 1 : 2 , 2 : 3 } ; } func main ( ) { f ( ) ; return 1 ; }");
        next(x, 2, 0, 0, 3, 5);
        Check.due("one next, where all that was drawn is forgotten", x.state(2, 2), 1);
        ChanceWorks y = Check.explored("func main ( ) { local k = 0 ; k ~ pick ( 64 ) ; }");
        next(y, 1, 0, 1, 0, 64);
    }

    private static void chosenOnesAreNotJoined() {
        ChanceWorks x = Check.explored("func main ( ) { local k = 0 ; k = choose ( 8 ) ; }");
        Check.due("nexts", x.state(1, 2), 8);
        for (int i = 0; i < 8; i++) {
            next(x, 1, i, 1, 0, 1);
        }
        Check.due("nexts in all", x.count(6), 9);
    }

    /** From 0 on each state's nexts in order; endings likewise. */
    private static void numberedAsTheyAreFound() {
        ChanceWorks x = Check.explored("var v ; func main ( ) { v ~ { 5 : 1 , 2 : 1 , 9 : 1 } ; v = v + 100 ; return v ; }");
        int[] values = {0, 5, 2, 9, 105, 102, 109};
        Check.due("states", x.count(4), values.length);
        for (int k = 0; k < values.length; k++) {
            Check.due("v of state " + k, x.value(k, -1, 0), values[k]);
        }
        for (int e = 0; e < 3; e++) {
            Check.due("ending " + e, x.ending(e, -1), values[4 + e]);
        }
    }

    private static void asManyStatesAsAsked() {
        ChanceWorks x = Check.house("var v ; func main ( ) { v ~ pick ( 3 ) ; v = 1 ; return v ; }");
        Check.due("one less than there are", x.explore(4), -1);
        Check.due("as many as there are", x.explore(5), 5);
        Check.due("one more than there are", x.explore(6), 5);
        ChanceWorks y = Check.house("var v ; func main ( ) { v = 1 ; }");
        Check.due("one state, one asked", y.explore(1), 1);
        ChanceWorks z = Check.house("var v ; func main ( ) { v = 1 ; v = 2 ; }");
        Check.due("two states, one asked", z.explore(1), -1);
        Check.due("two states, two asked", z.explore(2), 2);
    }

    private static void thousandStates() {
        String loop = "while v < 499 { v = v + 1 ; } }";
        ChanceWorks x = Check.house("var v ; func main ( ) { v = 0 ; " + loop);
        Check.due("1000 states of 999", x.explore(999), -1);
        Check.due("1000 states of 1000", x.explore(1000), 1000);
        Check.due("count(4)", x.count(4), 1000);
        Check.due("solve()", x.solve(), 0);
        Check.due("visits of all", Check.show(x, 9, 0), "1000/1");
        Check.due("state(999, 0)", x.state(999, 0), 1);
        Check.due("state(1000, 0)", Check.of(() -> x.state(1000, 0)), "IndexOutOfBoundsException");
        ChanceWorks y = Check.house("var v ; func main ( ) { v = 0 ; v = 0 ; " + loop);
        Check.due("1001 states of 1000", y.explore(1000), -1);
    }

    private static void thousandEndings() {
        ChanceWorks x = Check.house("var u ; var v ; var w ; func main ( ) { u ~ pick ( 10 ) ; v ~ pick ( 10 ) ; w ~ pick ( 10 ) ; }");
        Check.due("1000 endings", x.explore(1000), 111);
        Check.due("count(5)", x.count(5), 1000);
        Check.due("ending(999, 2)", x.ending(999, 2), 9);
        Check.due("ending(1000, 2)", Check.of(() -> x.ending(1000, 2)), "IndexOutOfBoundsException");
        Check.due("solve()", x.solve(), 0);
        Check.due("the weight of the last", Check.show(x, 2, 999), "1/1000");
        Check.due("independent(0, 2)", x.independent(0, 2) ? 1 : 0, 1);
        Check.due("given(0, 1, 2)", x.given(0, 1, 2) ? 1 : 0, 1);
        ChanceWorks y = Check.house("var u ; var v ; var w ; func main ( ) { u ~ pick ( 7 ) ; v ~ pick ( 11 ) ; w ~ pick ( 13 ) ; }");
        Check.due("1001 endings", y.explore(1000), -1);
        Check.due("count(5)", y.count(5), 0);
    }

    private static String nexts(int last) {
        return "var v ; func main ( ) { " + "v ~ pick ( 64 ) ; ".repeat(5) + "v ~ pick ( 54 ) ; v = v % " + last + " ; return 0 ; }";
    }

    /** 64, 4 times 64 times 64, 64 times 54, 54, and those of the last statement. */
    private static void twentyThousandNexts() {
        ChanceWorks x = Check.house(nexts(42));
        Check.due("20000 nexts", x.explore(1000), 1 + 5 * 64 + 54 + 42);
        Check.due("count(6)", x.count(6), 20000);
        Check.due("solve()", x.solve(), 0);
        Check.due("KEPT", Check.show(x, 6, 0), "1/1");
        Check.due("independent(0, 0)", x.independent(0, 0) ? 1 : 0, 0);
        ChanceWorks y = Check.house(nexts(43));
        Check.due("20001 nexts", y.explore(1000), -1);
        Check.due("count(6)", y.count(6), 0);
    }

    private static void spentByDrawnStates() {
        ChanceWorks x = Check.house("var v ; func main ( ) { v ~ pick ( 4 ) ; v = 0 ; }");
        Check.due("a draw to one state too many", x.explore(4), -1);
        Check.due("and to as many", x.explore(5), 5);
    }

    private static void spentLeavesNothing() {
        ChanceWorks x = Check.solved("var c ; func main ( ) { c = choose ( 2 ) ; while c { c ~ pick ( 2 ) ; } return c ; }");
        Check.due("explore(2)", x.explore(2), -1);
        for (int what = 4; what <= HOPELESS; what++) {
            Check.due("count(" + what + ")", x.count(what), 0);
        }
        Check.due("state(0, 0)", Check.of(() -> x.state(0, 0)), "IndexOutOfBoundsException");
        Check.due("value(0, -1, 0)", Check.of(() -> x.value(0, -1, 0)), "IndexOutOfBoundsException");
        Check.due("next(0, 0, 0)", Check.of(() -> x.next(0, 0, 0)), "IndexOutOfBoundsException");
        Check.due("ending(0, -1)", Check.of(() -> x.ending(0, -1)), "IndexOutOfBoundsException");
        Check.due("decide(0, 0)", Check.of(() -> x.decide(0, 0)), "IndexOutOfBoundsException");
        Check.due("decided(0)", Check.of(() -> x.decided(0)), "IndexOutOfBoundsException");
        Check.due("best()", Check.of(x::best), "IllegalStateException");
        Check.due("solve()", Check.of(x::solve), "IllegalStateException");
        Check.due("show(6, 0)", Check.of(() -> x.show(6, 0)), "IllegalStateException");
        Check.due("independent(0, 0)", Check.of(() -> x.independent(0, 0) ? 1 : 0), "IllegalStateException");
        Check.due("the program stays", x.count(3), 4);
    }

    private static void rings(String text, int rings, int greatest, int hopeless) {
        ChanceWorks x = Check.explored(text);
        Check.due("rings of " + text, x.count(RING), rings);
        Check.due("states of the greatest ring of " + text, x.count(GREATEST), greatest);
        Check.due("hopeless ones of " + text, x.count(HOPELESS), hopeless);
        int many = 0;
        for (int k = 0; k < x.count(4); k++) {
            many += x.state(k, 4);
        }
        Check.due("hopeless ones, one by one, of " + text, many, hopeless);
    }

    private static void ringsOfOne() {
        rings("func main ( ) { while 1 { } }", 1, 1, 1);
        rings("var v ; func main ( ) { while 1 { while 1 { } } }", 1, 1, 2);
        rings("var v ; func main ( ) { v ~ pick ( 2 ) ; if v { while 1 { } } while 1 { } }", 2, 1, 5);
        rings("var v = 5 ; func main ( ) { while v > 0 { } }", 1, 1, 1);
    }

    private static void ringsOfTwo() {
        rings("var v ; func main ( ) { while 1 { v = 0 ; } }", 1, 2, 2);
        rings("var v ; func main ( ) { while v < 1 { v ~ pick ( 2 ) ; } }", 1, 2, 0);
        rings("var v ; func main ( ) { while 1 { v = 1 - v ; } }", 1, 4, 4);
    }

    private static void noRings() {
        rings("var v ; func main ( ) { v = 1 ; v = 1 ; return v ; }", 0, 0, 0);
        rings("var v ; func main ( ) { while v < 5 { v = v + 1 ; } }", 0, 0, 0);
        // A state before a ring is none of it.
        rings("var v ; func main ( ) { v = 1 ; while v { v ~ pick ( 2 ) ; } v = 2 ; }", 1, 2, 0);
    }

    private static void ringsByWhatIsChosen() {
        rings("var c ; func main ( ) { while c == 0 { c = choose ( 2 ) ; } }", 1, 2, 0);
        rings("var c = 1 ; func main ( ) { while c { c = choose ( 2 ) ; } while 1 { c = choose ( 1 ) ; } }", 2, 2, 5);
    }

    private static void ringsSideBySide() {
        rings("var v ; var w ; func main ( ) { v ~ pick ( 3 ) ; while 1 { w = ( w + 1 ) % ( v + 1 ) ; } }", 3, 6, 13);
        // Two loops that come to each other are one ring.
        rings("var v ; func main ( ) { while 1 { while v { v ~ pick ( 2 ) ; } v ~ pick ( 2 ) ; } }", 1, 6, 6);
    }

    private static void hopeless() {
        rings("var v ; func main ( ) { v ~ pick ( 2 ) ; if v { while 1 { } } }", 1, 1, 2);
        rings("func main ( ) { while 1 { observe 1 ; } }", 1, 2, 2);
        rings("var v ; func main ( ) { while 1 { v ~ pick ( 2 ) ; observe v ; } }", 1, 3, 0);
        rings("var v ; func main ( ) { while 1 { v ~ pick ( 2 ) ; gain 1 / v ; } }", 1, 3, 0);
        rings("var v ; func main ( ) { while 1 { v ~ flip ( 0 , 1 ) ; observe v == 0 ; } }", 1, 3, 3);
    }

    private static void hopelessByAllNexts() {
        ChanceWorks x = Check.explored("var c ; func main ( ) { while c == 0 { c = choose ( 2 ) ; } }");
        Check.due("a state that need not end", x.state(0, 4), 0);
        x.decide(1, 0);
        Check.due("nor by the plan", x.state(0, 4), 0);
        Check.due("nor counted by it", x.count(HOPELESS), 0);
        Check.due("the ring counts with any plan", x.count(RING), 1);
        x.decide(1, 1);
        Check.due("and with another", x.count(RING), 1);
    }

    /** An ending is a number, and all vars and cells then. */
    private static void endingsThatDiffer() {
        Check.due("in the number", Check.explored("func main ( ) { local k = 0 ; k ~ pick ( 3 ) ; return k ; }").count(5), 3);
        Check.due("in a var", Check.explored("var v ; func main ( ) { v ~ pick ( 3 ) ; return 0 ; }").count(5), 3);
        Check.due("in a cell", Check.explored("arr a [ 8 ] ; func main ( ) { a [ 7 ] ~ pick ( 3 ) ; return 0 ; }").count(5), 3);
        Check.due("in nothing", Check.explored("func main ( ) { local k = 0 ; k ~ pick ( 3 ) ; return 0 ; }").count(5), 1);
        Check.due("in a local, which is gone", Check.explored("func main ( ) { local k = 0 ; k ~ pick ( 3 ) ; gain k ; }").count(5), 1);
    }

    private static void failuresAndTheCut() {
        ChanceWorks x = Check.explored("arr a [ 1 ] ; var v ; func f ( ) { f ( ) ; } func main ( ) { v ~ pick ( 6 ) ; if v == 0 { observe 0 ; } if v == 1 { gain a [ 1 ] ; } "
                + "if v == 2 { gain 1 / 0 ; } if v == 3 { v ~ pick ( 0 ) ; } if v == 4 { f ( ) ; } if v == 5 { v = choose ( 0 ) ; } }");
        boolean[] seen = new boolean[6];
        for (int k = 0; k < x.count(4); k++) {
            if (x.next(k, 0, 0) >= 2) {
                Check.due("the weight of a failure or the cut", x.next(k, 0, 2), 1);
                Check.due("its sort", x.next(k, 0, 0), x.next(k, 0, 1) == 0 ? 3 : 2);
                seen[x.next(k, 0, 1)] = true;
            }
        }
        for (int code = 0; code < seen.length; code++) {
            Check.due("whether the failure (or cut, 0) was met: " + code, seen[code] ? 1 : 0, 1);
        }
        Check.due("endings, where all fails or is cut", x.count(5), 0);
    }
}
