/** Term 2 RUNS, sentence by sentence: the last number that is allowed, and the first that is not. */
public final class RunEdgesTest {
    private static final String LEAST = "( 0 - 999999999 - 999999999 - 147483650 )";
    private static final String MOST = "( 999999999 + 999999999 + 147483649 )";
    private static final int ENDS = 1;
    private static final int FAILS = 2;
    private static final int CUT = 3;

    public static void main(String[] args) {
        theBeginning();
        wrapping();
        divisions();
        bothPartsAlways();
        onesAndZeros();
        fromTheLeft();
        placesOfArrays();
        placesAreFirst();
        picks();
        flips();
        spreads();
        choices();
        observes();
        gains();
        twelveCalls();
        expressionsBeforeTheDepth();
        emptyFunctions();
        returns();
        numbersOfCalls();
        lastWhiles();
        lastIfs();
        emptyBlocks();
        whatACallIsAt();
        Check.end();
    }

    /** How a play of main's statements ends, and with what. */
    private static void due(String statements, int how, long number) {
        String text = "var v = 3 ; var w ; arr a [ 3 ] ; arr b [ 8 ] ; func main ( ) { local k = 0 ; " + statements + " }";
        ChanceWorks x = Check.house(text);
        Check.due("play of " + statements, x.play(1, 2000), how);
        Check.due("played(0) of " + statements, x.played(0), how);
        Check.due("played(1) of " + statements, x.played(1), number);
        Check.due("explore of " + statements, x.explore(1000) > 0 ? 1 : 0, 1);
        for (int k = 0; k < x.count(4); k++) {
            if (how == FAILS && x.next(k, 0, 0) == FAILS) {
                Check.due("the one next of the state that fails in " + statements, x.state(k, 2), 1);
                Check.due("the code of its next in " + statements, x.next(k, 0, 1), number);
                Check.due("the total of its next in " + statements, x.state(k, 5), 1);
                Check.due("whether it chooses in " + statements, x.state(k, 3), 0);
            }
        }
    }

    private static void exp(String exp, long want) {
        due("return " + exp + " ;", ENDS, want);
    }

    private static void fails(String statement, int why) {
        due(statement, FAILS, why);
    }

    private static void works(String statement) {
        due(statement + " return 77 ;", ENDS, 77);
    }

    private static void ends(String text, long want) {
        ChanceWorks x = Check.house(text);
        Check.due("play of " + text, x.play(1, 2000), ENDS);
        Check.due("played(1) of " + text, x.played(1), want);
    }

    private static void theBeginning() {
        ends("var p = 5 ; var q = - 6 ; var r ; func main ( ) { return p * 100 + q * 10 + r ; }", 440);
        ends("arr a [ 2 ] ; func main ( ) { return a [ 0 ] + a [ 1 ] ; }", 0);
        ends("func main ( ) { if 0 { local y = 9 ; } return y ; }", 0);
        ChanceWorks x = Check.house("var p = 5 ; func main ( ) { p = p + 1 ; return p ; }");
        x.play(0, 9);
        x.play(0, 9);
        Check.due("each run begins with the vars at their numbers", x.played(1), 6);
    }

    private static void wrapping() {
        exp(MOST, Integer.MAX_VALUE);
        exp(LEAST, Integer.MIN_VALUE);
        exp(MOST + " + 1", Integer.MIN_VALUE);
        exp(LEAST + " - 1", Integer.MAX_VALUE);
        exp("- " + LEAST, Integer.MIN_VALUE);
        exp("- " + MOST, -Integer.MAX_VALUE);
        exp("65536 * 65536", 0);
        exp("65536 * 32768", Integer.MIN_VALUE);
        exp(MOST + " * " + MOST, 1);
        exp(LEAST + " * - 1", Integer.MIN_VALUE);
        exp(LEAST + " < " + MOST, 1);
        exp(MOST + " - " + LEAST, -1);
        exp(LEAST + " <= " + LEAST, 1);
    }

    private static void divisions() {
        exp("7 / 2", 3);
        exp("- 7 / 2", -3);
        exp("7 / - 2", -3);
        exp("- 7 / - 2", 3);
        exp("1 / 2", 0);
        exp("- 1 / 2", 0);
        exp("7 % 2", 1);
        exp("- 7 % 2", -1);
        exp("7 % - 2", 1);
        exp("- 7 % - 2", -1);
        exp("6 % 2", 0);
        exp(LEAST + " / - 1", Integer.MIN_VALUE);
        exp(LEAST + " % - 1", 0);
        exp(LEAST + " / 1", Integer.MIN_VALUE);
        exp(LEAST + " / " + LEAST, 1);
        exp(MOST + " / - 1", -Integer.MAX_VALUE);
        exp(MOST + " % " + LEAST, Integer.MAX_VALUE);
        exp("0 / 5", 0);
        exp("0 % 5", 0);
        fails("k = 1 / 0 ;", 2);
        fails("k = 1 % 0 ;", 2);
        fails("k = 0 / 0 ;", 2);
        fails("k = 0 % 0 ;", 2);
        fails("k = " + LEAST + " / ( v - 3 ) ;", 2);
    }

    private static void bothPartsAlways() {
        fails("k = 0 & 1 / 0 ;", 2);
        fails("k = 1 | 1 / 0 ;", 2);
        fails("k = 0 & a [ 3 ] ;", 1);
        fails("k = 1 | a [ 3 ] ;", 1);
        fails("if 0 & 1 % 0 { }", 2);
        fails("while 0 & a [ - 1 ] { }", 1);
    }

    private static void onesAndZeros() {
        exp("2 & 4", 1);
        exp("- 5 & 7", 1);
        exp("0 & 7", 0);
        exp("7 & 0", 0);
        exp("0 | - 5", 1);
        exp("6 | 9", 1);
        exp("0 | 0", 0);
        exp("! 5", 0);
        exp("! - 5", 0);
        exp("! 0", 1);
        exp("! ! 5", 1);
        exp("- ! 0", -1);
        exp("! - 0", 1);
        exp("( 3 == 3 ) + ( 3 != 3 ) * 10", 1);
        exp("( 3 == 4 ) + ( 3 != 4 ) * 10", 10);
        exp("( 2 < 3 ) + ( 3 < 3 ) * 10 + ( 4 < 3 ) * 100", 1);
        exp("( 2 <= 3 ) + ( 3 <= 3 ) * 10 + ( 4 <= 3 ) * 100", 11);
        exp("( 2 > 3 ) + ( 3 > 3 ) * 10 + ( 4 > 3 ) * 100", 100);
        exp("( 2 >= 3 ) + ( 3 >= 3 ) * 10 + ( 4 >= 3 ) * 100", 110);
        exp("- 1 < 0", 1);
    }

    private static void fromTheLeft() {
        exp("10 - 4 - 3", 3);
        exp("100 / 5 * 2", 40);
        exp("100 % 7 * 3", 6);
        exp("2 + 3 * 4", 14);
        exp("- 2 * 3 + 10", 4);
        exp("! 0 + 1", 2);
        exp("1 | 1 & 0", 1);
        exp("0 & 0 | 1", 1);
        exp("1 + 1 == 2 & 3 == 1 + 2", 1);
        ranks();
        fails("k = a [ 3 ] + 1 / 0 ;", 1);
        fails("k = 1 / 0 + a [ 3 ] ;", 2);
        fails("k = a [ 1 / 0 ] ;", 2);
        fails("k ~ { 1 / 0 : a [ 3 ] } ;", 2);
        fails("k ~ { 1 : a [ 3 ] , 1 / 0 : 1 } ;", 1);
        fails("k ~ flip ( 1 / 0 , a [ 3 ] ) ;", 2);
        fails("k ~ flip ( - 1 , a [ 3 ] ) ;", 1);
    }

    /** Each sign beside one of the rank above it, on either side, where the other order would answer something else. */
    private static void ranks() {
        exp("1 | 1 & 0", 1);
        exp("0 & 1 | 1", 1);
        exp("2 & 1 == 1", 1);
        exp("0 == 0 & 0", 0);
        exp("0 == 2 & 1", 0);
        exp("1 + 1 == 3", 0);
        exp("3 == 1 + 1", 0);
        exp("5 - 1 == 4", 1);
        exp("4 == 5 - 1", 1);
        exp("2 < 1 + 3", 1);
        exp("1 + 3 < 2", 0);
        exp("4 <= 1 + 3", 1);
        exp("1 + 3 <= 4", 1);
        exp("4 > 1 + 3", 0);
        exp("1 + 3 > 2", 1);
        exp("4 >= 5 - 1", 1);
        exp("5 - 1 >= 4", 1);
        exp("4 != 5 - 1", 0);
        exp("5 - 1 != 4", 0);
        exp("1 + 2 * 3", 7);
        exp("2 * 3 + 1", 7);
        exp("7 - 6 / 2", 4);
        exp("6 / 2 - 7", -4);
        exp("7 + 7 % 4", 10);
        exp("7 % 4 + 7", 10);
        exp("- 7 / 2 * 2", -6);
        exp("2 * - 3", -6);
        exp("2 - - 3", 5);
        exp("! 2 * 3", 0);
        exp("! 0 * 3", 3);
        exp("- 2 + 5", 3);
        exp("! 1 == 0", 1);
        exp("- 1 < 0 & ! 0", 1);
        exp("2 * 3 % 4", 2);
        exp("7 % 4 * 2", 6);
        exp("9 - 3 + 2", 8);
        exp("8 / 4 / 2", 1);
        exp("( 1 | 1 ) & 0", 0);
        exp("2 * ( 3 + 4 )", 14);
        exp("- ( 2 + 5 )", -7);
        exp("! ( 1 == 0 )", 1);
    }

    private static void placesOfArrays() {
        works("k = a [ 0 ] ;");
        works("k = a [ 2 ] ;");
        fails("k = a [ - 1 ] ;", 1);
        fails("k = a [ 3 ] ;", 1);
        works("a [ 0 ] = 5 ;");
        works("a [ 2 ] = 5 ;");
        fails("a [ - 1 ] = 5 ;", 1);
        fails("a [ 3 ] = 5 ;", 1);
        works("b [ 7 ] = b [ 7 ] ;");
        fails("b [ 8 ] = 5 ;", 1);
        fails("k = b [ 8 ] ;", 1);
        fails("k = b [ " + LEAST + " ] ;", 1);
        fails("k = b [ " + MOST + " ] ;", 1);
        fails("a [ 3 ] ~ pick ( 2 ) ;", 1);
        fails("a [ - 1 ] = choose ( 2 ) ;", 1);
        // Side by side, yet each has its own places.
        due("a [ 2 ] = 5 ; b [ 0 ] = 6 ; return v * 100 + a [ 2 ] * 10 + b [ 0 ] ;", ENDS, 356);
        due("a [ a [ 0 ] + 1 ] = 2 ; return a [ a [ 1 ] ] + a [ 1 ] ;", ENDS, 2);
    }

    /** A place's [ exp ] is worked out first, and must be there. */
    private static void placesAreFirst() {
        fails("a [ 3 ] = 1 / 0 ;", 1);
        fails("a [ 1 / 0 ] = a [ 3 ] ;", 2);
        fails("a [ 3 ] ~ pick ( 0 ) ;", 1);
        fails("a [ 3 ] ~ pick ( 1 / 0 ) ;", 1);
        fails("a [ 3 ] ~ flip ( 0 , 0 ) ;", 1);
        fails("a [ 3 ] ~ { 1 : 0 } ;", 1);
        fails("a [ 3 ] = choose ( 9 ) ;", 1);
        fails("a [ 0 ] = 1 / 0 ;", 2);
        fails("a [ 0 ] ~ pick ( 0 ) ;", 3);
        fails("a [ 0 ] = choose ( 9 ) ;", 5);
    }

    private static void picks() {
        works("k ~ pick ( 1 ) ;");
        works("k ~ pick ( 64 ) ;");
        fails("k ~ pick ( 0 ) ;", 3);
        fails("k ~ pick ( 65 ) ;", 3);
        fails("k ~ pick ( - 1 ) ;", 3);
        fails("k ~ pick ( " + LEAST + " ) ;", 3);
        fails("k ~ pick ( " + MOST + " ) ;", 3);
        ChanceWorks x = Check.explored("var v ; func main ( ) { v ~ pick ( 64 ) ; }");
        Check.due("the nexts of pick ( 64 )", x.state(0, 2), 64);
        Check.due("its total", x.state(0, 5), 64);
        for (int n = 0; n < 64; n++) {
            Check.due("draw " + n, x.ending(x.next(0, n, 1), 0), n);
            Check.due("its weight", x.next(0, n, 2), 1);
        }
        ChanceWorks y = Check.explored("var v = 7 ; func main ( ) { v ~ pick ( 1 ) ; }");
        Check.due("the nexts of pick ( 1 )", y.state(0, 2), 1);
        Check.due("what is drawn of it", y.ending(0, 0), 0);
    }

    private static void flips() {
        works("k ~ flip ( 0 , 1 ) ;");
        works("k ~ flip ( 1 , 0 ) ;");
        works("k ~ flip ( 1000000 , 1000000 ) ;");
        works("k ~ flip ( 0 , 1000000 ) ;");
        fails("k ~ flip ( 0 , 0 ) ;", 3);
        fails("k ~ flip ( - 1 , 1 ) ;", 3);
        fails("k ~ flip ( 1 , - 1 ) ;", 3);
        fails("k ~ flip ( 1000001 , 1 ) ;", 3);
        fails("k ~ flip ( 1 , 1000001 ) ;", 3);
        fails("k ~ flip ( " + LEAST + " , " + LEAST + " ) ;", 3);
        due("k ~ flip ( 1 , 0 ) ; return k ;", ENDS, 1);
        due("k ~ flip ( 0 , 1 ) ; return k ;", ENDS, 0);
        ChanceWorks x = Check.explored("var v ; func main ( ) { v ~ flip ( 3 , 4 ) ; }");
        Check.due("1 stands first", x.ending(0, 0), 1);
        Check.due("with the weight a", x.next(0, 0, 2), 3);
        Check.due("0 is second", x.ending(1, 0), 0);
        Check.due("with the weight b", x.next(0, 1, 2), 4);
        Check.due("their total", x.state(0, 5), 7);
    }

    private static void spreads() {
        works("k ~ { 5 : 1 } ;");
        works("k ~ { 5 : 1000000 } ;");
        works("k ~ { 5 : 0 , 6 : 1 } ;");
        fails("k ~ { 5 : 0 } ;", 3);
        fails("k ~ { 5 : 0 , 6 : 0 } ;", 3);
        fails("k ~ { 5 : 1000001 } ;", 3);
        fails("k ~ { 5 : 1 , 6 : 1000001 } ;", 3);
        fails("k ~ { 5 : - 1 } ;", 3);
        fails("k ~ { 5 : 2 , 6 : - 1 } ;", 3);
        fails("k ~ { 5 : " + LEAST + " , 6 : " + LEAST + " } ;", 3);
        works("k ~ { 1:1000000, 2:1000000, 3:1000000, 4:1000000, 5:1000000, 6:1000000, 7:1000000, 8:1000000 } ;");
        fails("k ~ { 1:1000000, 2:1000000, 3:1000000, 4:1000000, 5:1000000, 6:1000000, 7:1000000, 8:1000001 } ;", 3);
        ChanceWorks x = Check.explored("var v ; func main ( ) { v ~ { 1:1000000, 2:1000000, 3:1000000, 4:1000000, "
                + "5:1000000, 6:1000000, 7:1000000, 8:1000000 } ; }");
        Check.due("the greatest total", x.state(0, 5), 8000000);
        Check.due("the eighth draw", x.ending(x.next(0, 7, 1), 0), 8);
    }

    private static void choices() {
        works("k = choose ( 1 ) ;");
        works("k = choose ( 8 ) ;");
        fails("k = choose ( 0 ) ;", 5);
        fails("k = choose ( 9 ) ;", 5);
        fails("k = choose ( - 1 ) ;", 5);
        fails("k = choose ( " + LEAST + " ) ;", 5);
        fails("k = choose ( 64 ) ;", 5);
        ChanceWorks x = Check.explored("var v ; func main ( ) { v = choose ( 8 ) ; }");
        Check.due("whether it chooses", x.state(0, 3), 1);
        Check.due("its nexts", x.state(0, 2), 8);
        Check.due("its total", x.state(0, 5), 0);
        Check.due("what is chosen last", x.ending(x.next(0, 7, 1), 0), 7);
        ChanceWorks y = Check.explored("var v ; func main ( ) { v = choose ( 9 ) ; }");
        Check.due("states that choose, of one that fails", y.count(9), 0);
        Check.due("its total", y.state(0, 5), 1);
    }

    private static void observes() {
        due("observe 0 ;", CUT, 0);
        due("observe 1 - 1 ; return 5 ;", CUT, 0);
        works("observe 1 ;");
        works("observe - 1 ;");
        works("observe " + LEAST + " ;");
        fails("observe 1 / 0 ;", 2);
    }

    private static void gains() {
        ChanceWorks x = Check.house("func main ( ) { gain " + LEAST + " ; gain " + LEAST + " ; gain 0 ; gain - 1 ; }");
        x.play(0, 9);
        Check.due("what is gained has 64 bits", x.played(4), 2L * Integer.MIN_VALUE - 1);
        ChanceWorks y = Check.house("func main ( ) { gain 5 ; gain 1 / 0 ; }");
        y.play(0, 9);
        Check.due("a gain that FAILS adds nothing", y.played(4), 5);
    }

    private static String deep(int more) {
        return "func f ( n ) { local s = 0 ; if n { s = f ( n - 1 ) ; } return s + 1 ; } func main ( ) { local s = 0 ; s = f ( "
                + more + " ) ; return s ; }";
    }

    private static void twelveCalls() {
        // main is open, and f once more than it is told.
        ends(deep(10), 11);
        ChanceWorks x = Check.house(deep(11));
        Check.due("a thirteenth call", x.play(0, 2000), FAILS);
        Check.due("its code", x.played(1), 4);
        ChanceWorks y = Check.explored(deep(10));
        int most = 0;
        for (int k = 0; k < y.count(4); k++) {
            most = Math.max(most, y.state(k, 1));
        }
        Check.due("the most open calls", most, 12);
        ends("var v ; func main ( ) { v = v + 1 ; if v < 12 { main ( ) ; } return v ; }", 12);
        ChanceWorks z = Check.house("var v ; func main ( ) { v = v + 1 ; if v < 13 { main ( ) ; } return v ; }");
        Check.due("main is a call too", z.play(0, 2000), FAILS);
        Check.due("its code", z.played(1), 4);
        ends("var v ; func f ( ) { v = v + 1 ; } func main ( ) { " + "f ( ) ; ".repeat(40) + "return v ; }", 40);
    }

    private static void expressionsBeforeTheDepth() {
        String text = "func f ( n ) { if n { f ( n - 1 ) ; } else { f ( 1 / n ) ; } } func main ( ) { f ( 10 ) ; }";
        ChanceWorks x = Check.house(text);
        x.play(0, 2000);
        Check.due("what fails in a thirteenth call's expressions", x.played(1), 2);
    }

    private static void emptyFunctions() {
        ends("func f ( ) { } func main ( ) { local s = 5 ; s = f ( ) ; return s ; }", 0);
        ends("func f ( ) { } func main ( ) { local s = 5 ; f ( ) ; return s ; }", 5);
        ChanceWorks x = Check.house("func e ( ) { } func f ( n ) { if n { f ( n - 1 ) ; } else { e ( ) ; } } func main ( ) { f ( 10 ) ; }");
        x.play(0, 2000);
        Check.due("a thirteenth call of an empty function", x.played(1), 4);
        ChanceWorks y = Check.house("func e ( ) { } func f ( n ) { if n { f ( n - 1 ) ; } else { e ( ) ; } } func main ( ) { f ( 9 ) ; }");
        Check.due("a twelfth one", y.play(0, 2000), ENDS);
        ChanceWorks z = Check.explored("func f ( ) { } func main ( ) { f ( ) ; }");
        Check.due("a call of an empty function is one statement", z.count(4), 1);
    }

    private static void returns() {
        ends("func main ( ) { return 5 ; gain 1 ; return 6 ; }", 5);
        ends("func main ( ) { gain 1 ; }", 0);
        ends("var v ; func f ( ) { while 1 { v = v + 1 ; if v == 3 { return 8 ; } } } func main ( ) { v = f ( ) ; return v ; }", 8);
        ends("func f ( ) { return 9 ; } func main ( ) { local s = 1 ; s = f ( ) ; s = s + 1 ; return s ; }", 10);
        ends("func f ( ) { return 9 ; } func main ( ) { f ( ) ; }", 0);
        ends("var v ; func g ( ) { return 4 ; } func f ( ) { v = g ( ) ; } func main ( ) { local s = 1 ; s = f ( ) ; return s * 10 + v ; }", 4);
        // What is called may change the NAME before = , which has the number in the end.
        ends("var v ; func f ( ) { v = 3 ; return v + 1 ; } func main ( ) { v = f ( ) ; return v ; }", 4);
        // Returns that go through three calls at once.
        ChanceWorks x = Check.explored("func h ( ) { gain 1 ; } func g ( ) { h ( ) ; } func f ( ) { g ( ) ; } func main ( ) { f ( ) ; }");
        Check.due("states of calls that return at once", x.count(4), 4);
        Check.due("the last of them ends", x.next(3, 0, 0), ENDS);
    }

    private static void numbersOfCalls() {
        ends("func f ( p , q , r , s ) { return p * 1000 + q * 100 + r * 10 + s ; } func main ( ) { local t = 2 ; t = f ( 1 , t , t + 1 , 4 ) ; return t ; }", 1234);
        ends("func f ( p ) { p = p + 1 ; return p ; } func main ( ) { local p = 1 ; local q = 0 ; q = f ( p ) ; return q * 10 + p ; }", 21);
        ends("func f ( n ) { if n { local y = 7 ; return y ; } return y ; } func main ( ) { local s = 0 ; f ( 1 ) ; s = f ( 0 ) ; return s ; }", 0);
    }

    private static void lastWhiles() {
        ends("var i ; func f ( ) { while i < 3 { i = i + 1 ; } } func main ( ) { local s = 5 ; s = f ( ) ; return s * 10 + i ; }", 3);
        ends("var i ; func main ( ) { while i < 3 { i = i + 1 ; } }", 0);
        ends("var i ; func main ( ) { while 0 { } }", 0);
        ChanceWorks x = Check.explored("var i ; func main ( ) { while i < 2 { i = i + 1 ; } }");
        Check.due("its states: three times the while, twice the sum", x.count(4), 5);
        Check.due("behind the last statement the while again", x.state(x.next(1, 0, 1), 0), 0);
        Check.due("the while's last time ends", x.next(4, 0, 0), ENDS);
        ends("var i ; var j ; func main ( ) { while i < 3 { i = i + 1 ; j = 0 ; while j < 2 { j = j + 1 ; } } return i * 10 + j ; }", 32);
        ends("func f ( ) { while 1 { return 6 ; } } func main ( ) { local s = 0 ; s = f ( ) ; return s ; }", 6);
    }

    private static void lastIfs() {
        for (int c = 0; c <= 1; c++) {
            String call = " } func main ( ) { local s = 5 ; s = f ( " + c + " ) ; return s * 10 + v ; }";
            ends("var v ; func f ( c ) { if c { v = 1 ; }" + call, c);
            ends("var v ; func f ( c ) { if c { v = 1 ; } else { v = 2 ; }" + call, 2 - c);
            ends("var v ; func f ( c ) { if c { } else { v = 2 ; }" + call, c == 1 ? 0 : 2);
            ends("var v ; func f ( c ) { if c { if c { v = 1 ; } else { } }" + call, c);
            ends("var v ; func f ( c ) { while v < 3 { if c { v = v + 1 ; } else { v = v + 2 ; } }" + call, c == 1 ? 3 : 4);
        }
        ChanceWorks x = Check.explored("var v = 1 ; func main ( ) { if v { v = 2 ; } else { v = 3 ; } }");
        Check.due("states of an if that ends", x.count(4), 2);
        Check.due("behind an if's last statement the run ends", x.next(1, 0, 0), ENDS);
    }

    private static void emptyBlocks() {
        ends("func main ( ) { if 1 { } return 3 ; }", 3);
        ends("func main ( ) { if 0 { } else { } return 3 ; }", 3);
        ends("func main ( ) { if 1 { } }", 0);
        ChanceWorks x = Check.explored("var v ; func main ( ) { while v == 0 { } }");
        Check.due("a while without statements is AT itself again", x.next(0, 0, 1), 0);
        Check.due("its nexts", x.state(0, 2), 1);
    }

    /** Each open call is always AT a statement; those that wait, AT the one that called. */
    private static void whatACallIsAt() {
        ChanceWorks x = Check.explored("var v ; func f ( ) { v = v + 1 ; } func main ( ) { f ( ) ; f ( ) ; return v ; }");
        int[] at = {1, 0, 2, 0, 3};
        int[] open = {1, 2, 1, 2, 1};
        Check.due("states", x.count(4), at.length);
        for (int k = 0; k < at.length; k++) {
            Check.due("what state " + k + " is AT", x.state(k, 0), at[k]);
            Check.due("how many calls are open in it", x.state(k, 1), open[k]);
        }
        // Alike but for what the call that waits is AT.
        ChanceWorks y = Check.explored("var v ; func f ( ) { v = 0 ; } func main ( ) { f ( ) ; f ( ) ; }");
        Check.due("states that differ in who waits where", y.count(4), 4);
    }
}
