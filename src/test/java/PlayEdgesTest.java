import java.math.BigInteger;

/** Term 6 PLAYS (promises 19 to 23, and kind 12 of show), sentence by sentence. */
public final class PlayEdgesTest {
    private static final int STOPS = 0;
    private static final int ENDS = 1;
    private static final int FAILS = 2;
    private static final int CUT = 3;

    public static void main(String[] args) {
        noStatements();
        asManyStatementsAsThereAre();
        mostAndLeast();
        noneLeft();
        noneToldNoneWanted();
        toldTooGreat();
        toldBelowZero();
        toldOfWeightZero();
        drawsThatFail();
        whatIsChosenIsNotDrawn();
        chosenByThePlan();
        chosenWhereNothingWasExplored();
        twoHundred();
        toldMoreThanNeeded();
        seeds();
        seedsAndWeightZero();
        seedsOfTheGreatestTotal();
        gained();
        numberOfAPlay();
        statementsThatFail();
        varsInTheEnd();
        playedWithoutOne();
        oddsOfPlays();
        theLatestPlay();
        Check.end();
    }

    private static void record(String what, ChanceWorks x, long... want) {
        for (int i = 0; i < want.length; i++) {
            Check.due("played(" + i + ") of " + what, x.played(i), want[i]);
        }
    }

    private static ChanceWorks told(String text, int... draws) {
        ChanceWorks x = Check.house(text);
        for (int draw : draws) {
            x.tell(draw);
        }
        return x;
    }

    private static void noStatements() {
        ChanceWorks x = Check.house("var v = 4 ; func main ( ) { }");
        Check.due("play(0, 0) of no statement", x.play(0, 0), ENDS);
        record("no statement", x, ENDS, 0, 0, 0, 0, 4);
        Check.due("walk(0) of no statement", x.walk(0), ENDS);
        Check.due("walk(2000) of no statement", x.walk(2000), ENDS);
        Check.due("its odds", Check.show(x, 12, 0), "1/1");
    }

    private static void asManyStatementsAsThereAre() {
        ChanceWorks x = Check.house("var v ; func main ( ) { v = 1 ; v = 2 ; return v ; }");
        Check.due("one less", x.play(0, 2), STOPS);
        record("one less", x, STOPS, 0, 2, 0, 0, 2);
        Check.due("as many", x.play(0, 3), ENDS);
        record("as many", x, ENDS, 2, 3, 0, 0, 2);
        Check.due("none", x.play(0, 0), STOPS);
        record("none", x, STOPS, 0, 0, 0, 0, 0);
        Check.due("walk, one less", x.walk(2), STOPS);
        Check.due("walk, as many", x.walk(3), ENDS);
        Check.due("walk, none", x.walk(0), STOPS);
        ChanceWorks y = Check.house("var v ; func main ( ) { v = 1 ; v = 1 / 0 ; }");
        Check.due("before one that FAILS", y.play(0, 1), STOPS);
        Check.due("with it", y.play(0, 2), FAILS);
        ChanceWorks z = Check.house("func main ( ) { observe 0 ; }");
        Check.due("before one that is CUT", z.play(0, 0), STOPS);
        Check.due("with it", z.play(0, 1), CUT);
    }

    private static void mostAndLeast() {
        ChanceWorks x = Check.house("var v ; func main ( ) { while 1 { v = v + 1 ; } }");
        Check.due("play(0, 2000)", x.play(0, 2000), STOPS);
        record("2000 statements", x, STOPS, 0, 2000, 0, 0, 1000);
        Check.due("walk(2000)", x.walk(2000), STOPS);
        record("2000 statements of a walk", x, STOPS, 0, 2000, 0, 0, 1000);
        Check.due("play(0, 1999)", x.play(0, 1999), STOPS);
        record("1999 statements", x, STOPS, 0, 1999, 0, 0, 999);
        for (int most : new int[] {-1, 2001, Integer.MIN_VALUE, Integer.MAX_VALUE}) {
            Check.due("play(0, " + most + ")", Check.of(() -> x.play(0, most)), "IllegalArgumentException");
            Check.due("walk(" + most + ")", Check.of(() -> x.walk(most)), "IllegalArgumentException");
        }
        record("the latest play stays", x, STOPS, 0, 1999, 0, 0, 999);
        ChanceWorks y = new ChanceWorks();
        Check.due("play(0, 2001) without a program", Check.of(() -> y.play(0, 2001)), "IllegalStateException");
        Check.due("walk(-1) without a program", Check.of(() -> y.walk(-1)), "IllegalStateException");
    }

    /** With none left the play STOPS before that draw. */
    private static void noneLeft() {
        String text = "var v = 9 ; var w ; func main ( ) { w = 1 ; v ~ pick ( 5 ) ; gain 7 ; v ~ flip ( 1 , 2 ) ; return v ; }";
        ChanceWorks none = told(text);
        Check.due("none told", none.walk(2000), STOPS);
        record("none told", none, STOPS, 0, 1, 0, 0, 9, 1);
        Check.due("odds of none", Check.show(none, 12, 0), "1/1");
        ChanceWorks one = told(text, 3);
        Check.due("one told", one.walk(2000), STOPS);
        record("one told", one, STOPS, 0, 3, 1, 7, 3, 1);
        Check.due("odds of one", Check.show(one, 12, 0), "1/5");
        ChanceWorks two = told(text, 3, 0);
        Check.due("two told", two.walk(2000), ENDS);
        record("two told", two, ENDS, 1, 5, 2, 7, 1, 1);
        Check.due("odds of two", Check.show(two, 12, 0), "1/15");
    }

    private static void noneToldNoneWanted() {
        ChanceWorks x = told("var v ; func main ( ) { v = choose ( 3 ) ; v = v + 1 ; return v ; }");
        Check.due("a walk without draws", x.walk(2000), ENDS);
        record("a walk without draws", x, ENDS, 1, 3, 0, 0, 1);
    }

    private static void tooGreat(String draw, int last) {
        String text = "var v = 9 ; func main ( ) { " + draw + " ; return v ; }";
        Check.due("the last of " + draw, told(text, last).walk(2000), ENDS);
        for (int number : new int[] {last + 1, Integer.MAX_VALUE}) {
            ChanceWorks x = told(text, number);
            Check.due(number + " of " + draw, x.walk(2000), FAILS);
            record(number + " of " + draw, x, FAILS, 6, 1, 0, 0, 9);
            Check.due("odds of " + number + " of " + draw, Check.show(x, 12, 0), "1/1");
        }
    }

    private static void toldTooGreat() {
        tooGreat("v ~ pick ( 1 )", 0);
        tooGreat("v ~ pick ( 64 )", 63);
        tooGreat("v ~ flip ( 1 , 1 )", 1);
        tooGreat("v ~ flip ( 1 , 0 )", 1);
        tooGreat("v ~ { 5 : 1 }", 0);
        tooGreat("v ~ { 5 : 1 , 6 : 0 , 5 : 1 }", 2);
        tooGreat("v ~ { 1 : 1 , 2 : 1 , 3 : 1 , 4 : 1 , 5 : 1 , 6 : 1 , 7 : 1 , 8 : 1 }", 7);
        ChanceWorks x = told("var v ; func main ( ) { v ~ flip ( 1 , 2 ) ; gain 5 ; v ~ pick ( 4 ) ; v = 8 ; }", 1, 4, 0);
        Check.due("a number that there is not, second", x.walk(2000), FAILS);
        record("a number that there is not, second", x, FAILS, 6, 3, 1, 5, 0);
        Check.due("the odds of those before", Check.show(x, 12, 0), "2/3");
    }

    private static void toldBelowZero() {
        for (int number : new int[] {-1, -2, Integer.MIN_VALUE}) {
            ChanceWorks x = told("var v = 9 ; func main ( ) { v ~ pick ( 4 ) ; }", number);
            Check.due("told " + number, x.walk(2000), FAILS);
            record("told " + number, x, FAILS, 6, 1, 0, 0, 9);
        }
    }

    private static void toldOfWeightZero() {
        ChanceWorks x = told("var v ; var w ; func main ( ) { v ~ { 7 : 0 , 8 : 5 , 9 : 0 } ; w ~ flip ( 1 , 1 ) ; return v ; }", 2, 0);
        Check.due("a draw of weight 0 that is told", x.walk(2000), ENDS);
        record("a draw of weight 0", x, ENDS, 9, 3, 2, 0, 9, 1);
        Check.due("its odds", Check.show(x, 12, 0), "0/1");
        Check.due("their sign", x.show(12, 0), 0);
        ChanceWorks y = told("var v ; func main ( ) { v ~ flip ( 0 , 3 ) ; return v ; }", 0);
        y.walk(2000);
        Check.due("flip's first of weight 0", y.played(1), 1);
        Check.due("its odds", Check.show(y, 12, 0), "0/1");
    }

    private static void drawsThatFail() {
        ChanceWorks x = told("var v = 9 ; func main ( ) { v ~ flip ( 0 , 0 ) ; }");
        Check.due("a draw that FAILS wants no told one", x.walk(2000), FAILS);
        record("a draw that FAILS", x, FAILS, 3, 1, 0, 0, 9);
        ChanceWorks y = told("var v = 9 ; func main ( ) { v ~ pick ( 3 ) ; v ~ pick ( 65 ) ; }", 1, 99);
        Check.due("it FAILS before the told one is looked at", y.walk(2000), FAILS);
        record("a second draw that FAILS", y, FAILS, 3, 2, 1, 0, 1);
        Check.due("its odds", Check.show(y, 12, 0), "1/3");
        ChanceWorks z = Check.house("var v = 9 ; func main ( ) { v ~ pick ( 0 ) ; }");
        Check.due("by a seed", z.play(5, 2000), FAILS);
        record("by a seed", z, FAILS, 3, 1, 0, 0, 9);
    }

    private static void whatIsChosenIsNotDrawn() {
        ChanceWorks x = told("var v ; var c ; func main ( ) { c = choose ( 8 ) ; v ~ pick ( 4 ) ; c = choose ( 8 ) ; return v ; }", 3);
        Check.due("a walk that chooses", x.walk(2000), ENDS);
        record("a walk that chooses", x, ENDS, 3, 4, 1, 0, 3, 0);
        Check.due("its odds", Check.show(x, 12, 0), "1/4");
        ChanceWorks y = Check.house("var v ; var c ; func main ( ) { c = choose ( 8 ) ; v ~ pick ( 64 ) ; return v ; }");
        y.play(17, 2000);
        Check.due("a seed goes on by draws alone", y.played(1), (step(17) >>> 33) % 64);
    }

    private static void chosenByThePlan() {
        ChanceWorks x = Check.explored("var v ; var c ; func main ( ) { v ~ pick ( 2 ) ; c = choose ( 5 ) ; return v * 10 + c ; }");
        x.decide(1, 4);
        x.decide(2, 3);
        x.tell(0);
        x.walk(2000);
        Check.due("the plan of the one state", x.played(1), 4);
        x.forget();
        x.tell(1);
        x.walk(2000);
        Check.due("the plan of the other", x.played(1), 13);
        x.best();
        x.walk(2000);
        Check.due("the best plan", x.played(1), 10);
        x.decide(2, 2);
        x.explore(1000);
        x.walk(2000);
        Check.due("the plan anew", x.played(1), 10);
        x.decide(2, 2);
        x.walk(2000);
        Check.due("the plan that is decided then", x.played(1), 12);
        Check.due("it is SPENT", x.explore(1), -1);
        x.walk(2000);
        Check.due("without a plan", x.played(1), 10);
    }

    /** A told draw of weight 0 leads to states that were not explored: there 0 is chosen. */
    private static void chosenWhereNothingWasExplored() {
        ChanceWorks x = Check.explored("var v ; var c ; func main ( ) { v ~ { 1 : 3 , 2 : 0 } ; c = choose ( 3 ) ; return v * 10 + c ; }");
        x.decide(1, 2);
        x.tell(0);
        x.walk(2000);
        Check.due("a state that was explored", x.played(1), 12);
        x.forget();
        x.tell(1);
        x.walk(2000);
        Check.due("a state that was not", x.played(1), 20);
        ChanceWorks y = Check.house("var c = 5 ; func main ( ) { c = choose ( 3 ) ; return c ; }");
        y.play(0, 2000);
        Check.due("before explore()", y.played(1), 0);
        ChanceWorks z = Check.explored("var c ; func main ( ) { c = choose ( 3 ) ; return c ; }");
        z.decide(0, 2);
        Check.program(z, "var c ; func main ( ) { c = choose ( 3 ) ; return c ; }");
        z.play(0, 2000);
        Check.due("after program()", z.played(1), 0);
    }

    private static void twoHundred() {
        ChanceWorks x = Check.house("var v ; var n ; func main ( ) { while 1 { v ~ pick ( 64 ) ; n = n + 1 ; } }");
        for (int n = 1; n <= 200; n++) {
            Check.due("tell " + n, x.tell(n % 64), n);
        }
        Check.due("one more than 200", Check.of(() -> x.tell(1)), "UnsupportedOperationException");
        Check.due("a walk of 200 draws", x.walk(2000), STOPS);
        record("a walk of 200 draws", x, STOPS, 0, 601, 200, 0, 200 % 64, 200);
        Check.due("its odds", Check.show(x, 12, 0), "1/" + BigInteger.TWO.pow(1200));
        Check.due("forget()", x.forget(), 200);
        Check.due("forget() once more", x.forget(), 0);
        Check.due("tell() after it", x.tell(5), 1);
        Check.due("a walk of one draw", x.walk(2000), STOPS);
        record("a walk of one draw", x, STOPS, 0, 4, 1, 0, 5, 1);
    }

    private static void toldMoreThanNeeded() {
        ChanceWorks x = told("var v ; func main ( ) { v ~ pick ( 4 ) ; return v ; }", 2, 3, 1);
        Check.due("more told than are drawn", x.walk(2000), ENDS);
        Check.due("the first is drawn", x.played(1), 2);
        Check.due("the same walk again", x.walk(2000), ENDS);
        Check.due("draws the first again", x.played(1), 2);
        Check.due("all are told still", x.forget(), 3);
        Check.due("a play by a seed wants none", x.play(1, 2000), ENDS);
    }

    private static long step(long x) {
        return x * 6364136223846793005L + 1442695040888963407L;
    }

    private static void seeds() {
        ChanceWorks x = Check.house("var a ; var b ; func main ( ) { a ~ pick ( 64 ) ; b ~ pick ( 63 ) ; }");
        for (long seed : new long[] {0, 1, -1, 2, Long.MAX_VALUE, Long.MIN_VALUE, 1L << 33, (1L << 32) - 1, -7777777777777L}) {
            long one = step(seed);
            long two = step(one);
            Check.due("play(" + seed + ", 2)", x.play(seed, 2), ENDS);
            Check.due("the first draw of " + seed, x.played(5), (one >>> 33) % 64);
            Check.due("the second draw of " + seed, x.played(6), (two >>> 33) % 63);
        }
    }

    /** The first one with which the sum is above: one of weight 0 never is, wherever it stands. */
    private static void seedsAndWeightZero() {
        ChanceWorks x = Check.house("var v ; func main ( ) { v ~ { 1 : 0 , 2 : 1 , 3 : 0 , 4 : 1 , 5 : 0 } ; return v ; }");
        for (long seed = 0; seed < 40; seed++) {
            x.play(seed, 9);
            Check.due("draws of weight 0 by " + seed, x.played(1), (step(seed) >>> 33) % 2 == 0 ? 2 : 4);
        }
        ChanceWorks y = Check.house("var v ; func main ( ) { v ~ flip ( 2 , 1 ) ; return v ; }");
        for (long seed = 0; seed < 40; seed++) {
            y.play(seed, 9);
            Check.due("a flip by " + seed, y.played(1), (step(seed) >>> 33) % 3 < 2 ? 1 : 0);
            Check.due("its odds by " + seed, Check.show(y, 12, 0), y.played(1) == 1 ? "2/3" : "1/3");
        }
    }

    private static void seedsOfTheGreatestTotal() {
        String pairs = "1:1000000, 2:1000000, 3:1000000, 4:1000000, 5:1000000, 6:1000000, 7:1000000, 8:1000000";
        ChanceWorks x = Check.house("var v ; func main ( ) { v ~ { " + pairs + " } ; return v ; }");
        for (long seed = 0; seed < 40; seed++) {
            x.play(seed, 9);
            Check.due("of eight millions by " + seed, x.played(1), (step(seed) >>> 33) % 8000000 / 1000000 + 1);
        }
    }

    private static void gained() {
        ChanceWorks x = Check.house("func main ( ) { while 1 { gain 999999999 + 999999999 + 147483649 ; } }");
        x.play(0, 2000);
        Check.due("what was GAINED has 64 bits", x.played(4), 1000L * Integer.MAX_VALUE);
        ChanceWorks y = Check.house("func main ( ) { while 1 { gain 0 - 999999999 - 999999999 - 147483650 ; } }");
        y.play(0, 2000);
        Check.due("below 0 too", y.played(4), 1000L * Integer.MIN_VALUE);
        ChanceWorks z = Check.house("func main ( ) { gain 5 ; gain - 5 ; observe 0 ; gain 7 ; }");
        z.play(0, 2000);
        Check.due("before the cut", z.played(4), 0);
        z.play(0, 1);
        Check.due("of one statement", z.played(4), 5);
        ChanceWorks w = told("var v ; func main ( ) { gain 3 ; v ~ pick ( 2 ) ; gain 4 ; }", 9);
        w.walk(2000);
        Check.due("before the failure 6", w.played(4), 3);
    }

    /** The number with which it ENDED, or its failure's code, 0 else. */
    private static void numberOfAPlay() {
        ChanceWorks x = Check.house("func main ( ) { return 0 - 999999999 - 999999999 - 147483650 ; }");
        x.play(0, 9);
        Check.due("the least number", x.played(1), Integer.MIN_VALUE);
        String text = "arr a [ 1 ] ; var v ; func f ( ) { f ( ) ; } func main ( ) { v ~ pick ( 7 ) ; if v == 1 { gain a [ 1 ] ; } "
                + "if v == 2 { gain 1 / 0 ; } if v == 3 { v ~ pick ( 0 ) ; } if v == 4 { f ( ) ; } if v == 5 { v = choose ( 0 ) ; } "
                + "if v == 6 { v ~ pick ( 2 ) ; } observe v ; }";
        ChanceWorks y = Check.house(text);
        for (int draw = 0; draw <= 6; draw++) {
            y.forget();
            y.tell(draw);
            y.tell(5);
            Check.due("how draw " + draw + " ends", y.walk(2000), draw == 0 ? CUT : FAILS);
            Check.due("the code of draw " + draw, y.played(1), draw);
        }
        y.forget();
        y.walk(2000);
        Check.due("of one that STOPS", y.played(1), 0);
    }

    /** One that FAILS counts, too; not one before which it STOPS; one that is CUT is done. */
    private static void statementsThatFail() {
        ChanceWorks x = Check.house("var v ; func main ( ) { v = 1 ; v = 1 / 0 ; v = 3 ; }");
        x.play(0, 9);
        Check.due("statements of one that FAILS", x.played(2), 2);
        ChanceWorks y = Check.house("var v ; func main ( ) { v = 1 ; observe 0 ; v = 3 ; }");
        y.play(0, 9);
        Check.due("statements of one that is CUT", y.played(2), 2);
        ChanceWorks z = Check.house("func f ( ) { } func main ( ) { f ( ) ; if 1 { } while 0 { } return 1 ; }");
        z.play(0, 9);
        Check.due("statements of calls, if and while", z.played(2), 4);
    }

    private static void varsInTheEnd() {
        ChanceWorks x = Check.house("var u = 1 ; var v = 2 ; arr a [ 2 ] ; arr b [ 1 ] ; func main ( ) { a [ 1 ] = 5 ; b [ 0 ] = 6 ; v = 7 ; a [ 0 ] = 1 / 0 ; u = 9 ; }");
        x.play(0, 9);
        record("one that FAILS", x, FAILS, 2, 4, 0, 0, 1, 7, 0, 5, 6);
        Check.due("played(9), the last", x.played(9), 6);
        for (int what : new int[] {-1, 10, Integer.MIN_VALUE, Integer.MAX_VALUE}) {
            Check.due("played(" + what + ")", Check.of(() -> x.played(what)), "IndexOutOfBoundsException");
        }
        x.play(0, 0);
        record("one of no statement", x, STOPS, 0, 0, 0, 0, 1, 2, 0, 0, 0);
        ChanceWorks y = Check.house("var v ; func f ( ) { v = 8 ; return 3 ; } func main ( ) { v = f ( ) ; }");
        y.play(0, 1);
        Check.due("in the middle of a call", y.played(5), 0);
        y.play(0, 2);
        Check.due("before the call returns", y.played(5), 8);
        y.play(0, 3);
        Check.due("when it has returned", y.played(5), 3);
        ChanceWorks z = Check.house("func main ( ) { gain 1 ; }");
        z.play(0, 9);
        Check.due("played(4), the last without vars", z.played(4), 1);
        Check.due("played(5) without vars", Check.of(() -> z.played(5)), "IndexOutOfBoundsException");
    }

    private static void playedWithoutOne() {
        ChanceWorks x = new ChanceWorks();
        record("a new object", x, 0, 0, 0, 0, 0);
        Check.due("played(5) without a program", Check.of(() -> x.played(5)), "IndexOutOfBoundsException");
        ChanceWorks y = Check.house("var v = 7 ; arr a [ 2 ] ; func main ( ) { }");
        record("a new program", y, 0, 0, 0, 0, 0, 0, 0, 0);
        Check.due("played(8) without a play", Check.of(() -> y.played(8)), "IndexOutOfBoundsException");
        Check.due("show(12, 0) without a play", Check.of(() -> y.show(12, 0)), "IllegalStateException");
        y.play(0, 0);
        record("a play", y, ENDS, 0, 0, 0, 0, 7, 0, 0);
        Check.program(y, "var v = 7 ; arr a [ 2 ] ; func main ( ) { }");
        record("a new program again", y, 0, 0, 0, 0, 0, 0, 0, 0);
    }

    /** The product of the odds of its draws, each by its own weight, also where two lead to the same. */
    private static void oddsOfPlays() {
        String text = "var v ; func main ( ) { v ~ { 5 : 1 , 5 : 2 , 6 : 3 } ; v ~ flip ( 4 , 2 ) ; v ~ pick ( 1 ) ; }";
        ChanceWorks x = told(text, 1, 1, 0);
        x.walk(9);
        Check.due("odds of three draws", Check.show(x, 12, 0), "1/9");
        x.walk(2);
        Check.due("odds of two draws", Check.show(x, 12, 0), "1/9");
        x.walk(1);
        Check.due("odds of one draw", Check.show(x, 12, 0), "1/3");
        x.walk(0);
        Check.due("odds of no draw", Check.show(x, 12, 0), "1/1");
        ChanceWorks y = told("var v ; func main ( ) { v ~ pick ( 2 ) ; observe v ; }", 0);
        Check.due("a walk that is CUT", y.walk(9), CUT);
        Check.due("its odds", Check.show(y, 12, 0), "1/2");
        ChanceWorks z = told("var v ; func main ( ) { v ~ pick ( 2 ) ; v = 1 / v ; }", 0);
        Check.due("a walk that FAILS", z.walk(9), FAILS);
        Check.due("its odds", Check.show(z, 12, 0), "1/2");
    }

    private static void theLatestPlay() {
        ChanceWorks x = told("var v ; func main ( ) { v ~ pick ( 3 ) ; return v ; }", 2);
        x.walk(9);
        Check.due("of a walk", x.played(1), 2);
        x.play(0, 1);
        Check.due("of a play that STOPS behind it", x.played(1), 0);
        Check.due("its draws", x.played(3), 1);
        x.explore(1000);
        x.solve();
        x.tell(1);
        x.forget();
        Check.due("it stays", x.played(3), 1);
        Check.due("its odds stay", Check.show(x, 12, 0), "1/3");
    }
}
