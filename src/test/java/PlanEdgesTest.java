import java.math.BigInteger;

/** Term 5 PLANS (promises 12 to 14, and kind 11 of show), sentence by sentence. */
public final class PlanEdgesTest {
    private static final String LEAST = "( 0 - 999999999 - 999999999 - 147483650 )";

    public static void main(String[] args) {
        worthOfGains();
        worthOfDraws();
        worthOfWhatIsNoState();
        firstOfTheGreatest();
        greatestBelowZero();
        greatestByALittle();
        farGreatest();
        anyRing();
        bitsBelowTheLine();
        bitsAboveTheLine();
        bitsOfWhatIsNotTaken();
        ringsBeforeBits();
        bestIsNotByThePlan();
        whatIsDecided();
        noSuchDecision();
        Check.end();
    }

    private static ChanceWorks planned(String text) {
        ChanceWorks x = Check.explored(text);
        Check.due("best() of " + text, x.best(), 0);
        return x;
    }

    private static void worthOfGains() {
        ChanceWorks x = planned("func main ( ) { gain 5 ; gain - 7 ; gain 0 ; }");
        Check.due("the worth of the first", Check.show(x, 11, 0), "-2/1");
        Check.due("the worth of the second", Check.show(x, 11, 1), "-7/1");
        Check.due("the worth of the third", Check.show(x, 11, 2), "0/1");
        Check.due("its sign", x.show(11, 1), -1);
        ChanceWorks y = planned("func main ( ) { gain " + LEAST + " ; gain " + LEAST + " ; gain - 1 - " + LEAST + " ; }");
        Check.due("worths do not wrap", Check.show(y, 11, 0), "-2147483649/1");
        Check.due("the worth of the second", Check.show(y, 11, 1), "-1/1");
    }

    private static void worthOfDraws() {
        ChanceWorks x = planned("var v ; func main ( ) { v ~ { 6 : 1 , - 4 : 2 , 1 : 4 } ; gain v ; }");
        Check.due("the sum of odds times worth", Check.show(x, 11, 0), "2/7");
        ChanceWorks y = planned("var v ; func main ( ) { v ~ flip ( 1 , 1 ) ; gain 1 - 2 * v ; }");
        Check.due("a sum of 0", Check.show(y, 11, 0), "0/1");
        Check.due("its sign", y.show(11, 0), 0);
        ChanceWorks z = planned("var v ; func main ( ) { v ~ pick ( 3 ) ; if v { gain 9 ; } }");
        Check.due("nexts that are worth nothing count", Check.show(z, 11, 0), "6/1");
    }

    /** Of an ending, a failure, the cut the worth is 0; a gain that FAILS adds nothing. */
    private static void worthOfWhatIsNoState() {
        ChanceWorks x = planned("var c ; func main ( ) { c = choose ( 4 ) ; if c == 0 { gain - 1 ; } observe c != 1 ; gain 5 / ( c - 2 ) - 5 ; return 100 ; }");
        Check.due("the worth of the cut is above one below 0", x.decided(0), 1);
        Check.due("the worth", Check.show(x, 11, 0), "0/1");
        Check.due("the worth of a gain that FAILS", Check.show(planned("func main ( ) { gain 1 / 0 ; }"), 11, 0), "0/1");
        Check.due("an ending's number is worth nothing", Check.show(planned("func main ( ) { return 5 ; }"), 11, 0), "0/1");
        ChanceWorks y = planned("var c ; func main ( ) { c = choose ( 3 ) ; }");
        Check.due("nexts that are endings: the first", y.decided(0), 0);
    }

    private static void taken(String gains, int want) {
        ChanceWorks x = planned("var c ; func main ( ) { c = choose ( 4 ) ; gain " + gains + " ; }");
        Check.due("what is taken by " + gains, x.decided(0), want);
    }

    /** The first next of the greatest worth. */
    private static void firstOfTheGreatest() {
        taken("0", 0);
        taken("c", 3);
        taken("0 - c", 0);
        taken("c * ( 3 - c )", 1);
        taken("c == 2", 2);
        taken("c >= 2", 2);
        taken("c != 0", 1);
        taken("c == 3 | c == 1", 1);
        ChanceWorks x = Check.explored("var c ; func main ( ) { c = choose ( 3 ) ; gain 4 ; }");
        x.decide(0, 2);
        x.best();
        Check.due("the first one, whatever the plan was", x.decided(0), 0);
        ChanceWorks y = planned("var c ; func main ( ) { c = choose ( 8 ) ; gain c == 7 ; }");
        Check.due("the eighth", y.decided(0), 7);
    }

    private static void greatestBelowZero() {
        taken("c - 9", 3);
        taken("0 - 9 - c", 0);
        taken("( c == 1 ) * 5 - 9", 1);
        taken("( c == 1 ) - 1", 1);
        taken("1 - ( c == 0 )", 1);
    }

    /** Two worths that differ far behind the point. */
    private static void greatestByALittle() {
        String text = "var c ; var v ; func main ( ) { c = choose ( 2 ) ; if c == %A { v ~ flip ( 499999 , 500000 ) ; } else { v ~ flip ( 500000 , 500001 ) ; } gain v * %G ; }";
        for (int a = 0; a <= 1; a++) {
            ChanceWorks x = planned(text.replace("%A", "" + a).replace("%G", "1"));
            Check.due("the greater one by a little, " + a, x.decided(0), 1 - a);
            ChanceWorks y = planned(text.replace("%A", "" + a).replace("%G", "- 1"));
            Check.due("the greater one below 0 by a little, " + a, y.decided(0), a);
        }
        ChanceWorks z = planned("var c ; var v ; func main ( ) { c = choose ( 2 ) ; if c { v ~ flip ( 2 , 6 ) ; } else { v ~ flip ( 1 , 3 ) ; } gain v ; }");
        Check.due("the first of two that are the same fraction", z.decided(0), 0);
    }

    private static void farGreatest() {
        ChanceWorks x = planned("var c ; func main ( ) { c = choose ( 3 ) ; gain ( c == 1 ) * " + LEAST + " + ( c == 2 ) * 999999999 ; }");
        Check.due("the greatest by far", x.decided(0), 2);
        ChanceWorks y = planned("var c ; var d ; func main ( ) { c = choose ( 2 ) ; d = choose ( 2 ) ; gain ( c + d ) * ( c + d ) - 3 * d * c ; }");
        Check.due("a plan for each state, the second of the first", y.decided(y.next(0, 0, 1)), 1);
        Check.due("a plan for each state, the second of the second", y.decided(y.next(0, 1, 1)), 0);
        Check.due("the first", y.decided(0), 0);
    }

    private static void notMade(String text, int why) {
        ChanceWorks x = Check.explored(text);
        Check.due("best() of " + text, x.best(), why);
        Check.due("show(11, 0) of " + text, Check.of(() -> x.show(11, 0)), "IllegalStateException");
        Check.due("best() once more of " + text, x.best(), why);
    }

    private static void anyRing() {
        notMade("func main ( ) { while 1 { } }", -2);
        notMade("var v ; func main ( ) { while v == 0 { v ~ pick ( 2 ) ; } }", -2);
        notMade("var c ; func main ( ) { while c == 0 { c = choose ( 2 ) ; } }", -2);
        // One that no plan needs to come to, and one that the plan does not take.
        notMade("var c ; func main ( ) { c = choose ( 2 ) ; if c { while 1 { } } gain 1 ; }", -2);
        ChanceWorks x = Check.explored("var c ; func main ( ) { while c == 0 { c = choose ( 2 ) ; } }");
        x.decide(1, 1);
        Check.due("best() where the plan leaves the ring", x.best(), -2);
        Check.due("the plan stays", x.decided(1), 1);
    }

    /** With the odds 1 / 1000000 so many times, then one of 2 so many times, the run gains. */
    private static String chain(int first, int second, String gain) {
        return "var v ; var c ; func main ( ) { " + "v ~ flip ( 1 , 999999 ) ; if v == 0 { return 0 ; } ".repeat(first)
                + "v ~ flip ( 1 , 1 ) ; if v == 0 { return 0 ; } ".repeat(second) + "gain " + gain + " ; }";
    }

    private static void bitsBelowTheLine() {
        ChanceWorks x = planned(chain(12, 16, "1"));
        Check.due("a worth of 256 bits below the line", Check.show(x, 11, 0), "1/" + BigInteger.TEN.pow(72).shiftLeft(16));
        Check.due("its size", x.size(1), 8);
        notMade(chain(12, 17, "1"), -3);
        Check.due("a worth that is 2 times as great", planned(chain(12, 17, "2")).show(11, 0), 1);
    }

    private static String leave(String gain) {
        return "var v ; var c ; func main ( ) { " + "v ~ flip ( 1 , 999999 ) ; if v { return 0 ; } ".repeat(12) + "gain " + gain + " ; }";
    }

    private static void bitsAboveTheLine() {
        BigInteger top = BigInteger.valueOf(999999).pow(12);
        Check.due("bits above the line", top.multiply(BigInteger.valueOf(65537)).bitLength(), 256);
        Check.due("one more", top.multiply(BigInteger.valueOf(131071)).bitLength(), 257);
        ChanceWorks x = planned(leave("65537"));
        Check.due("a worth of 256 bits above the line", Check.show(x, 11, 0), top.multiply(BigInteger.valueOf(65537)) + "/" + BigInteger.TEN.pow(72));
        notMade(leave("131071"), -3);
        ChanceWorks y = planned(leave("- 65537"));
        Check.due("one below 0", Check.show(y, 11, 0), "-" + top.multiply(BigInteger.valueOf(65537)) + "/" + BigInteger.TEN.pow(72));
        notMade(leave("- 131071"), -3);
        // A gain first: 2147483647 times what is below the line, and more, in one state that draws nothing.
        notMade(chain(12, 0, "1").replace("main ( ) {", "main ( ) { gain 999999999 + 999999999 ;"), -3);
        ChanceWorks z = planned(chain(12, 0, "1").replace("main ( ) {", "main ( ) { gain 65535 ;"));
        Check.due("a gain, then a worth of 240 bits", Check.show(z, 11, 0), BigInteger.TEN.pow(72).multiply(BigInteger.valueOf(65535)).add(BigInteger.ONE)
                + "/" + BigInteger.TEN.pow(72));
        notMade(chain(12, 0, "1").replace("main ( ) {", "main ( ) { gain 131071 ;"), -3);
    }

    private static void bitsOfWhatIsNotTaken() {
        String text = chain(12, 17, "1").replace("main ( ) {", "main ( ) { c = choose ( 2 ) ; if c == 0 { gain 5 ; return 0 ; }");
        notMade(text, -3);
    }

    private static void ringsBeforeBits() {
        String text = chain(12, 17, "1").replace("gain 1 ;", "gain 1 ; while 1 { }");
        notMade(text, -2);
        notMade(chain(12, 17, "1").replace("main ( ) {", "main ( ) { v ~ pick ( 2 ) ; while v { } "), -2);
    }

    private static void bestIsNotByThePlan() {
        ChanceWorks x = Check.explored("var c ; func main ( ) { c = choose ( 2 ) ; gain c ; c = choose ( 2 ) ; gain 0 - c ; }");
        x.decide(0, 0);
        int second = 0;
        for (int k = 1; k < x.count(4); k++) {
            if (x.state(k, 3) == 1) {
                second = k;
                x.decide(k, 1);
            }
        }
        Check.due("best()", x.best(), 0);
        Check.due("the plan of the first choice", x.decided(0), 1);
        Check.due("the plan of the other", x.decided(second), 0);
        Check.due("the worth", Check.show(x, 11, 0), "1/1");
        Check.due("best() once more", x.best(), 0);
        Check.due("the worth once more", Check.show(x, 11, 0), "1/1");
    }

    private static void whatIsDecided() {
        ChanceWorks x = Check.explored("var c ; func main ( ) { c = choose ( 8 ) ; c = choose ( 1 ) ; }");
        Check.due("decided(0) at first", x.decided(0), 0);
        Check.due("decide(0, 7), the last", x.decide(0, 7), 0);
        Check.due("decided(0) then", x.decided(0), 7);
        Check.due("decide(0, 0)", x.decide(0, 0), 7);
        Check.due("decide(1, 0), of one alone", x.decide(1, 0), 0);
        Check.due("decide(1, 1)", Check.of(() -> x.decide(1, 1)), "IndexOutOfBoundsException");
        ChanceWorks y = Check.explored("func main ( ) { local k = 0 ; k = choose ( 3 ) ; }");
        Check.due("a next that leads to the same is another one", y.decide(1, 2), 0);
        Check.due("it is taken", y.decided(1), 2);
    }

    private static void noSuchDecision() {
        ChanceWorks x = Check.explored("var c ; func main ( ) { c ~ pick ( 2 ) ; c = choose ( 3 ) ; return c ; }");
        Check.due("a state that draws", Check.of(() -> x.decide(0, 0)), "IndexOutOfBoundsException");
        Check.due("a state that draws, decided", Check.of(() -> x.decided(0)), "IndexOutOfBoundsException");
        Check.due("the first that chooses", x.decided(1), 0);
        Check.due("the last that chooses", x.decided(2), 0);
        Check.due("one behind it, that returns", Check.of(() -> x.decided(3)), "IndexOutOfBoundsException");
        int states = x.count(4);
        for (int k : new int[] {-1, states, Integer.MIN_VALUE, Integer.MAX_VALUE}) {
            Check.due("decide(" + k + ", 0)", Check.of(() -> x.decide(k, 0)), "IndexOutOfBoundsException");
            Check.due("decided(" + k + ")", Check.of(() -> x.decided(k)), "IndexOutOfBoundsException");
        }
        for (int c : new int[] {-1, 3, Integer.MIN_VALUE, Integer.MAX_VALUE}) {
            Check.due("decide(1, " + c + ")", Check.of(() -> x.decide(1, c)), "IndexOutOfBoundsException");
        }
        Check.due("decide(1, 2), the last", x.decide(1, 2), 0);
        ChanceWorks y = Check.explored("var c ; func main ( ) { c = choose ( 9 ) ; }");
        Check.due("a choice that FAILS", Check.of(() -> y.decide(0, 0)), "IndexOutOfBoundsException");
        ChanceWorks z = Check.house("var c ; func main ( ) { c = choose ( 2 ) ; }");
        Check.due("before explore()", Check.of(() -> z.decide(0, 0)), "IndexOutOfBoundsException");
        Check.due("before explore(), decided", Check.of(() -> z.decided(0)), "IndexOutOfBoundsException");
        Check.due("before explore(), best()", Check.of(z::best), "IllegalStateException");
        Check.due("before explore(), solve()", Check.of(z::solve), "IllegalStateException");
    }
}
