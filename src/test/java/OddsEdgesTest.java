import java.math.BigInteger;

/** Term 4 ODDS (promises 15 to 18), sentence by sentence, with the last number that is allowed and the first that is not. */
public final class OddsEdgesTest {
    public static void main(String[] args) {
        thePlanAtFirst();
        visitsOfTheBeginning();
        visitsThatThereAreNot();
        lost();
        ringOf32();
        ringOf33();
        ringOf33ThatNoRunComesTo();
        ringOf33ThatIsNotOpen();
        ringOf33ByOtherPlansAlone();
        bitsBelowTheLine();
        bitsAboveTheLine();
        bitsOfVisitsThatAreNone();
        ringsBeforeBits();
        longWeights();
        keptIsNothing();
        nothingEnds();
        numbersThatNothingHas();
        whereTheNumberDoesNotMatter();
        gainsThatFail();
        signs();
        nothingIsSolved();
        partsOf32Bits();
        noSuchLimb();
        Check.end();
    }

    private static void thePlanAtFirst() {
        ChanceWorks x = Check.solved("var c ; func main ( ) { c = choose ( 3 ) ; return c ; }");
        Check.due("the odds of the one that is taken", Check.show(x, 0, 0), "1/1");
        Check.due("the odds of another", Check.show(x, 0, 1), "0/1");
        Check.due("the odds of the last", Check.show(x, 0, 2), "0/1");
        x.decide(0, 2);
        x.solve();
        Check.due("by another plan, of the first", Check.show(x, 0, 0), "0/1");
        Check.due("by another plan, of the last", Check.show(x, 0, 2), "1/1");
    }

    /** How often a run comes to it, the beginning's first time too. */
    private static void visitsOfTheBeginning() {
        ChanceWorks x = Check.solved("var v ; func main ( ) { v = 1 ; }");
        Check.due("a beginning that none comes back to", Check.show(x, 8, 0), "1/1");
        ChanceWorks y = Check.solved("var v ; func main ( ) { while v == 0 { v ~ flip ( 1 , 3 ) ; } }");
        Check.due("a beginning that is in a ring", Check.show(y, 8, 0), "4/1");
        Check.due("the other one of the ring", Check.show(y, 8, 1), "4/1");
        Check.due("one behind the ring", Check.show(y, 8, 2), "1/1");
        ChanceWorks z = Check.solved("var v ; func main ( ) { while v < 2 { v ~ { 0 : 1 , 1 : 1 , 2 : 1 } ; } }");
        Check.due("the visits of all together", Check.show(z, 9, 0), "7/1");
    }

    private static void visitsThatThereAreNot() {
        ChanceWorks x = Check.solved("var c ; func main ( ) { c = choose ( 2 ) ; if c { c = 5 ; } return c ; }");
        int taken = x.next(0, 0, 1);
        int other = x.next(0, 1, 1);
        Check.due("of a state that the plan takes", Check.show(x, 8, taken), "1/1");
        Check.due("of a state that it does not", Check.show(x, 8, other), "0/1");
        Check.due("its sign", x.show(8, other), 0);
        ChanceWorks y = Check.solved("var v ; func main ( ) { v ~ pick ( 2 ) ; if v { while 1 { } } }");
        for (int k = 0; k < y.count(4); k++) {
            Check.due("of state " + k, Check.show(y, 8, k), y.state(k, 4) == 1 ? "0/1" : k == 0 ? "1/1" : "1/2");
        }
        // Hopeless with the plan alone: such a state is not open either, so it has no visits.
        ChanceWorks z = Check.solved("var c ; func main ( ) { while c == 0 { c = choose ( 2 ) ; } }");
        Check.due("of the beginning that is not open by the plan", Check.show(z, 8, 0), "0/1");
        Check.due("of all", Check.show(z, 9, 0), "0/1");
        z.decide(1, 1);
        z.solve();
        Check.due("of the beginning that is open by the plan", Check.show(z, 8, 0), "1/1");
    }

    private static void lost() {
        Check.due("LOST of none", Check.show(Check.solved("func main ( ) { gain 1 ; }"), 5, 0), "0/1");
        Check.due("LOST of all", Check.show(Check.solved("func main ( ) { while 1 { } }"), 5, 0), "1/1");
        String part = "var v ; func main ( ) { v ~ { 0 : 2 , 1 : 3 , 2 : 5 } ; if v == 0 { while 1 { } } observe v == 1 ; }";
        ChanceWorks x = Check.solved(part);
        Check.due("LOST of a part", Check.show(x, 5, 0), "1/5");
        Check.due("the cut is not LOST", Check.show(x, 4, 0), "1/2");
        Check.due("KEPT beside it", Check.show(x, 6, 0), "3/10");
        ChanceWorks y = Check.solved("var c ; func main ( ) { while c == 0 { c = choose ( 2 ) ; } }");
        Check.due("LOST by the plan", Check.show(y, 5, 0), "1/1");
        y.decide(1, 1);
        y.solve();
        Check.due("LOST by another plan", Check.show(y, 5, 0), "0/1");
        ChanceWorks z = Check.solved("var v ; func main ( ) { while v == 0 { v ~ { 0 : 5 , 1 : 2 , 2 : 1 } ; } while v == 2 { } }");
        Check.due("LOST behind a ring", Check.show(z, 5, 0), "1/3");
        ChanceWorks w = Check.solved("var v ; func main ( ) { v ~ pick ( 2 ) ; gain 1 / v ; }");
        Check.due("a failure is not LOST", Check.show(w, 5, 0), "0/1");
    }

    /** Two states for each number (the while, the draw), or three with one more statement. */
    private static String ring(int numbers, String more) {
        return "var v ; func main ( ) { while v < 99 { v ~ { ( v + 1 ) % " + numbers + " : 9 , 99 : 1 } ; " + more + " } }";
    }

    private static void ringOf32() {
        ChanceWorks x = Check.explored(ring(16, ""));
        Check.due("states of the ring", x.count(8), 32);
        Check.due("solve() of a ring of 32", x.solve(), 0);
        Check.due("visits of all", Check.show(x, 9, 0), "21/1");
        Check.due("KEPT", Check.show(x, 6, 0), "1/1");
    }

    private static void ringOf33() {
        ChanceWorks x = Check.explored(ring(11, "gain 1 ;"));
        Check.due("states of the ring", x.count(8), 33);
        Check.due("solve() of a ring of 33", x.solve(), -2);
        Check.due("nothing is solved then", Check.of(() -> x.show(6, 0)), "IllegalStateException");
        Check.due("solve() once more", x.solve(), -2);
    }

    private static void ringOf33ThatNoRunComesTo() {
        String text = "var c ; var v ; func main ( ) { c = choose ( 2 ) ; if c { while v < 99 { v ~ { ( v + 1 ) % %N : 9 , 99 : 1 } ; %M } } }";
        ChanceWorks x = Check.explored(text.replace("%N", "11").replace("%M", "gain 1 ;"));
        Check.due("states of the ring aside", x.count(8), 33);
        Check.due("solve() with a ring of 33 aside", x.solve(), -2);
        ChanceWorks y = Check.explored(text.replace("%N", "16").replace("%M", ""));
        Check.due("states of the ring aside", y.count(8), 32);
        Check.due("solve() with a ring of 32 aside", y.solve(), 0);
        Check.due("visits of all", Check.show(y, 9, 0), "2/1");
    }

    private static void ringOf33ThatIsNotOpen() {
        ChanceWorks x = Check.explored("var v ; func main ( ) { while 1 { v = ( v + 1 ) % 20 ; } }");
        Check.due("states of the ring", x.count(8), 40);
        Check.due("solve() of a ring that is not open", x.solve(), 0);
        Check.due("LOST", Check.show(x, 5, 0), "1/1");
        // Open by all nexts, but not by the plan.
        ChanceWorks y = Check.explored("var c ; var v ; func main ( ) { while c == 0 { v = ( v + 1 ) % 20 ; if v == 0 { c = choose ( 2 ) ; } } }");
        Check.due("hopeless ones", y.count(10), 0);
        Check.due("a ring of more than 32", y.count(8) > 32 ? 1 : 0, 1);
        Check.due("solve() of a ring that is not open by the plan", y.solve(), 0);
        Check.due("LOST by the plan", Check.show(y, 5, 0), "1/1");
    }

    private static void ringOf33ByOtherPlansAlone() {
        ChanceWorks x = Check.explored("var c ; " + ring(9, "c = choose ( 2 ) ; if c { v = 99 ; }"));
        Check.due("a ring of more than 32", x.count(8) > 32 ? 1 : 0, 1);
        Check.due("solve() by the plan that stays in it", x.solve(), -2);
        int chooses = 0;
        while (x.state(chooses, 3) == 0) {
            chooses++;
        }
        x.decide(chooses, 1);
        Check.due("solve() by a plan that leaves it", x.solve(), 0);
        Check.due("KEPT then", Check.show(x, 6, 0), "1/1");
        x.decide(chooses, 0);
        Check.due("solve() by the first plan again", x.solve(), -2);
    }

    private static String flips(int first, int second, String last) {
        String leave = "if v { return 1 ; } ";
        return "var v ; func main ( ) { " + ("v ~ flip ( 1 , 999999 ) ; " + leave).repeat(first)
                + ("v ~ flip ( 1 , 1 ) ; " + leave).repeat(second) + last + " }";
    }

    private static void bitsBelowTheLine() {
        BigInteger bottom = BigInteger.TEN.pow(72).shiftLeft(16);
        Check.due("bits of the last visits", bottom.bitLength(), 256);
        ChanceWorks x = Check.explored(flips(12, 16, "v = 0 ;"));
        Check.due("solve() with 256 bits", x.solve(), 0);
        Check.due("the last visits", Check.show(x, 8, x.count(4) - 1), BigInteger.valueOf(999999).pow(12) + "/" + bottom);
        Check.due("their size below the line", x.size(1), 8);
        ChanceWorks y = Check.explored(flips(12, 17, "v = 0 ;"));
        Check.due("solve() with 257 bits", y.solve(), -3);
        Check.due("nothing is solved then", Check.of(() -> y.show(8, 0)), "IllegalStateException");
        Check.due("solve() once more", y.solve(), -3);
    }

    /** Each step on is one of so many draws, all others lead to the beginning again: its visits are their product. */
    private static String climb(int last) {
        return "var v ; func main ( ) { while v < 13 { v ~ { v + 1 : 1 , 0 : 999999 - ( v == 12 ) * " + (1000000 - last) + " } ; } }";
    }

    private static void bitsAboveTheLine() {
        BigInteger visits = BigInteger.TEN.pow(72).shiftLeft(16);
        ChanceWorks x = Check.explored(climb(65536));
        Check.due("solve() with 256 bits above the line", x.solve(), 0);
        Check.due("the visits of the beginning", Check.show(x, 8, 0), visits + "/1");
        Check.due("their size above the line", x.size(0), 8);
        Check.due("visits of all may have more", Check.show(x, 9, 0).length() > 70 ? 1 : 0, 1);
        ChanceWorks y = Check.explored(climb(131072));
        Check.due("solve() with 257 bits above the line", y.solve(), -3);
    }

    private static void bitsOfVisitsThatAreNone() {
        ChanceWorks x = Check.explored("var c ; " + flips(12, 17, "v = 0 ;").replace("main ( ) {", "main ( ) { c = choose ( 2 ) ; if c == 0 { return 0 ; } "));
        Check.due("solve() where no run comes to long visits", x.solve(), 0);
        x.decide(0, 1);
        Check.due("solve() where runs come to them", x.solve(), -3);
        x.decide(0, 0);
        Check.due("solve() as at first", x.solve(), 0);
    }

    private static void ringsBeforeBits() {
        String ring = "while v < 99 { v ~ { ( v + 1 ) % 11 : 9 , 99 : 1 } ; gain 1 ; }";
        Check.due("solve() with long visits, then a ring of 33", Check.explored(flips(12, 17, "v = 0 ; " + ring)).solve(), -2);
        String before = flips(12, 17, "v = 0 ;").replace("main ( ) {", "main ( ) { " + ring);
        Check.due("solve() with a ring of 33, then long visits", Check.explored(before).solve(), -2);
    }

    /** The limit is one of visits: weights, and what is summed up, may have more bits. */
    private static void longWeights() {
        ChanceWorks x = Check.solved(flips(12, 16, "v ~ flip ( 1 , 1 ) ;"));
        BigInteger top = BigInteger.valueOf(999999).pow(12);
        BigInteger bottom = BigInteger.TEN.pow(72).shiftLeft(17);
        Check.due("a weight of 257 bits", Check.show(x, 2, x.count(5) - 1), top + "/" + bottom);
        Check.due("its size", x.size(1), 9);
        Check.due("its highest limb", x.limb(1, 8), 1);
    }

    private static void keptIsNothing() {
        String[] texts = {"func main ( ) { observe 0 ; }", "func main ( ) { while 1 { } }",
            "var c ; func main ( ) { c = choose ( 2 ) ; observe c ; return 1 ; }"};
        for (String text : texts) {
            ChanceWorks x = Check.solved(text);
            Check.due("KEPT of " + text, Check.show(x, 6, 0), "0/1");
            Check.due("odds of a number of " + text, Check.of(() -> x.show(0, 0)), "IllegalStateException");
            Check.due("odds of a failure of " + text, Check.of(() -> x.show(1, 1)), "IllegalStateException");
            Check.due("the average of " + text, Check.of(() -> x.show(10, 0)), "IllegalStateException");
            Check.due("the weight of a failure of " + text, Check.show(x, 3, 1), "0/1");
            Check.due("what is shown, after one that is refused, of " + text, Check.fraction(x, 0), "0/1");
        }
        ChanceWorks y = Check.solved(texts[2]);
        Check.due("the weight of an ending that no run comes to", Check.show(y, 2, 0), "0/1");
        y.decide(0, 1);
        y.solve();
        Check.due("odds of 1 when it is taken", Check.show(y, 0, 1), "1/1");
    }

    private static void nothingEnds() {
        ChanceWorks x = Check.solved("func main ( ) { gain 1 / 0 ; }");
        Check.due("KEPT of a failure", Check.show(x, 6, 0), "1/1");
        Check.due("odds of a number", Check.show(x, 0, 0), "0/1");
        Check.due("odds of the failure", Check.show(x, 1, 2), "1/1");
        Check.due("the average where nothing ENDS", Check.of(() -> x.show(10, 0)), "IllegalStateException");
        ChanceWorks y = Check.solved("var c ; func main ( ) { c = choose ( 2 ) ; gain 1 / c ; return 4 ; }");
        Check.due("the average where nothing that ENDS weighs", Check.of(() -> y.show(10, 0)), "IllegalStateException");
        y.decide(0, 1);
        y.solve();
        Check.due("the average where it does", Check.show(y, 10, 0), "4/1");
        ChanceWorks z = Check.solved("var v ; func main ( ) { v ~ pick ( 4 ) ; gain 1 / v ; return v ; }");
        Check.due("the average of those that END", Check.show(z, 10, 0), "2/1");
    }

    private static void numbersThatNothingHas() {
        ChanceWorks x = Check.solved("var v ; func main ( ) { v ~ pick ( 2 ) ; return v ; }");
        for (int v : new int[] {-1, 2, 7, Integer.MIN_VALUE, Integer.MAX_VALUE}) {
            Check.due("odds of " + v, Check.show(x, 0, v), "0/1");
            Check.due("odds of failure " + v, Check.show(x, 1, v), "0/1");
            Check.due("weight of failure " + v, Check.show(x, 3, v), "0/1");
        }
        Check.due("odds of failure 0", Check.show(x, 1, 0), "0/1");
        Check.due("size(0) of 0", x.size(0), 0);
        Check.due("size(1) of 0", x.size(1), 1);
        Check.due("limb(1, 0) of 0", x.limb(1, 0), 1);
        ChanceWorks y = Check.solved("var v ; func main ( ) { v ~ pick ( 2 ) ; return ( 0 - 999999999 - 999999999 - 147483650 ) + v * - 1 ; }");
        Check.due("odds of the least number", Check.show(y, 0, Integer.MIN_VALUE), "1/2");
        Check.due("odds of the greatest number", Check.show(y, 0, Integer.MAX_VALUE), "1/2");
        Check.due("what runs END with", Check.show(y, 10, 0), "-1/2");
    }

    private static void whereTheNumberDoesNotMatter() {
        ChanceWorks x = Check.solved("var v ; func main ( ) { v ~ pick ( 2 ) ; gain 3 ; return v ; }");
        x.play(1, 100);
        for (int kind : new int[] {4, 5, 6, 7, 9, 10, 12}) {
            String want = Check.show(x, kind, 0);
            for (int v : new int[] {-1, 1000, Integer.MIN_VALUE, Integer.MAX_VALUE}) {
                Check.due("show(" + kind + ", " + v + ")", Check.show(x, kind, v), want);
            }
        }
    }

    private static void gainsThatFail() {
        ChanceWorks x = Check.solved("var v ; func main ( ) { v ~ pick ( 2 ) ; gain 6 / v ; gain 1 ; }");
        Check.due("the GAIN", Check.show(x, 7, 0), "7/2");
        Check.due("the GAIN of a failure alone", Check.show(Check.solved("func main ( ) { gain 5 / 0 ; }"), 7, 0), "0/1");
        Check.due("the GAIN before a cut", Check.show(Check.solved("func main ( ) { gain 5 ; observe 0 ; }"), 7, 0), "5/1");
        ChanceWorks y = Check.solved("var v ; func main ( ) { while v == 0 { gain 2 ; v ~ pick ( 2 ) ; } }");
        Check.due("the GAIN in a ring", Check.show(y, 7, 0), "4/1");
        Check.due("the GAIN in states without end", Check.show(Check.solved("func main ( ) { while 1 { gain 1 ; } }"), 7, 0), "0/1");
    }

    private static void signs() {
        ChanceWorks x = Check.solved("var v ; func main ( ) { v ~ flip ( 1 , 2 ) ; gain v * 5 - 4 ; return 1 - v * 3 ; }");
        Check.due("the sign of a gain below 0", x.show(7, 0), -1);
        Check.due("it is without its sign", Check.part(x, 0).toString(), "7");
        Check.due("below the line", Check.part(x, 1).toString(), "3");
        Check.due("the sign of 0", x.show(10, 0), 0);
        Check.due("the sign of an average of 0", Check.fraction(x, 0), "0/1");
        Check.due("the sign of odds", x.show(0, 1), 1);
        Check.due("these odds", Check.fraction(x, 1), "2/3");
    }

    private static void nothingIsSolved() {
        ChanceWorks x = Check.explored("var c ; func main ( ) { c = choose ( 2 ) ; return c ; }");
        for (int kind = 0; kind <= 10; kind++) {
            int k = kind;
            Check.due("show(" + kind + ", 0) before solve()", Check.of(() -> x.show(k, 0)), "IllegalStateException");
            Check.due("show(" + kind + ", -1) before solve()", Check.of(() -> x.show(k, -1)), "IllegalStateException");
        }
        Check.due("independent(5, 5) before solve()", Check.of(() -> x.independent(5, 5) ? 1 : 0), "IllegalStateException");
        Check.due("given(5, 5, 5) before solve()", Check.of(() -> x.given(5, 5, 5) ? 1 : 0), "IllegalStateException");
    }

    /** The odds of told draws: 1 over the product of their totals. */
    private static ChanceWorks told(String draws, int many) {
        ChanceWorks x = Check.house("var v ; func main ( ) { while 1 { " + draws + " } }");
        for (int n = 0; n < many; n++) {
            x.tell(0);
        }
        x.walk(2000);
        x.show(12, 0);
        return x;
    }

    private static void partsOf32Bits() {
        ChanceWorks none = told("v ~ flip ( 1 , 1 ) ;", 0);
        Check.due("1 / 1 above", none.size(0), 1);
        Check.due("1 / 1 below", none.size(1), 1);
        ChanceWorks half = told("v ~ flip ( 1 , 1 ) ;", 31);
        Check.due("size of 2 ^ 31", half.size(1), 1);
        Check.due("limb 0 of 2 ^ 31", half.limb(1, 0), Integer.MIN_VALUE);
        ChanceWorks full = told("v ~ flip ( 1 , 65536 ) ; v ~ flip ( 1 , 256 ) ; v ~ flip ( 1 , 16 ) ; v ~ flip ( 1 , 14 ) ;", 4);
        Check.due("size of 2 ^ 32 - 1", full.size(1), 1);
        Check.due("limb 0 of 2 ^ 32 - 1", full.limb(1, 0), -1);
        ChanceWorks over = told("v ~ flip ( 1 , 1 ) ;", 32);
        Check.due("size of 2 ^ 32", over.size(1), 2);
        Check.due("limb 0 of 2 ^ 32", over.limb(1, 0), 0);
        Check.due("limb 1 of 2 ^ 32", over.limb(1, 1), 1);
        ChanceWorks last = told("v ~ flip ( 1 , 1 ) ;", 63);
        Check.due("size of 2 ^ 63", last.size(1), 2);
        Check.due("limb 1 of 2 ^ 63", last.limb(1, 1), Integer.MIN_VALUE);
        ChanceWorks third = told("v ~ flip ( 1 , 1 ) ;", 64);
        Check.due("size of 2 ^ 64", third.size(1), 3);
        Check.due("limb 2 of 2 ^ 64", third.limb(1, 2), 1);
        ChanceWorks longest = told("v ~ flip ( 1 , 1 ) ;", 200);
        Check.due("size of 2 ^ 200", longest.size(1), 7);
        Check.due("limb 6 of 2 ^ 200", longest.limb(1, 6), 256);
    }

    private static void noSuchLimb() {
        ChanceWorks x = told("v ~ flip ( 1 , 1 ) ;", 40);
        Check.due("limb(1, 1), the last one", x.limb(1, 1), 256);
        Check.due("limb(1, 2)", Check.of(() -> x.limb(1, 2)), "IndexOutOfBoundsException");
        Check.due("limb(1, -1)", Check.of(() -> x.limb(1, -1)), "IndexOutOfBoundsException");
        Check.due("limb(0, 0), the last one", x.limb(0, 0), 1);
        Check.due("limb(0, 1)", Check.of(() -> x.limb(0, 1)), "IndexOutOfBoundsException");
        Check.due("limb(-1, 0)", Check.of(() -> x.limb(-1, 0)), "IndexOutOfBoundsException");
        Check.due("limb(2, 0)", Check.of(() -> x.limb(2, 0)), "IndexOutOfBoundsException");
        Check.due("size(-1)", Check.of(() -> x.size(-1)), "IndexOutOfBoundsException");
        Check.due("size(2)", Check.of(() -> x.size(2)), "IndexOutOfBoundsException");
        for (int i : new int[] {Integer.MIN_VALUE, Integer.MAX_VALUE}) {
            Check.due("limb(1, " + i + ")", Check.of(() -> x.limb(1, i)), "IndexOutOfBoundsException");
            Check.due("size(" + i + ")", Check.of(() -> x.size(i)), "IndexOutOfBoundsException");
        }
        ChanceWorks y = new ChanceWorks();
        Check.due("limb(0, 0) of 0 / 1", Check.of(() -> y.limb(0, 0)), "IndexOutOfBoundsException");
        Check.due("limb(1, 0) of 0 / 1", y.limb(1, 0), 1);
        Check.due("limb(1, 1) of 0 / 1", Check.of(() -> y.limb(1, 1)), "IndexOutOfBoundsException");
    }
}
