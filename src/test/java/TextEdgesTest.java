/** Term 1 TEXTS (promises 4 and 5), sentence by sentence: the last that is taken and the first that is not. */
public final class TextEdgesTest {
    private static final String[] WORDS = {
        "var", "arr", "func", "local", "if", "else", "while", "return", "observe", "gain", "pick", "flip", "choose",
    };
    private static final String SIGNS = "(){}[];,:~=<>+-*/%&|!";

    public static void main(String[] args) {
        emptyTapes();
        blanks();
        bytesThatBeginNoToken();
        comments();
        lengthsOfNames();
        lettersOfNames();
        lengthsOfNumbers();
        longestSigns();
        words();
        varItems();
        arrayItems();
        emptyBrackets();
        callsAndDraws();
        elses();
        comparisons();
        endsOfTheTape();
        namesAreToldAtOnce();
        localsBehindTheirEnd();
        itemsBehindTheirEnd();
        fortyOpen();
        toldAlready();
        notToldAlready();
        variableWanted();
        arrayWanted();
        notLookedAt();
        sizesOfArrays();
        manyVars();
        manyArrays();
        manyFunctions();
        manyNames();
        manyVariables();
        manyStatements();
        manyPairs();
        oneBeforeTwo();
        twoBeforeThree();
        theseBeforeTen();
        tenBeforeFifteen();
        theNextOneIsReadAtOnce();
        sixteen();
        sixteenBeforeSeventeen();
        seventeen();
        Check.end();
    }

    private static void fault(int code, String marked) {
        Texts.fault(code, marked);
    }

    private static void fine(int statements, String text) {
        Texts.fine(statements, text);
    }

    /** What stands in a function of a program that has a var, an array and a function. */
    private static void faultIn(int code, String statements) {
        fault(code, "var x ; arr a [ 2 ] ; func g ( p ) { } func main ( ) { " + statements);
    }

    private static void fineIn(int many, String statements) {
        fine(many, "var x ; arr a [ 2 ] ; func g ( p ) { } func main ( ) { " + statements + " }");
    }

    private static void emptyTapes() {
        fault(17, "^");
        fault(17, " \t\r\n ^");
        fault(17, "# nothing^");
        fault(17, "#^");
        fault(17, "# nothing\n^");
    }

    private static void blanks() {
        for (char blank : new char[] {9, 10, 13, 32}) {
            fine(0, "func" + blank + "main(){}");
            fine(0, blank + "func main(){}" + blank);
        }
        fine(1, "func main(){return 1<2;}");
    }

    private static void bytesThatBeginNoToken() {
        for (int b = 0; b < 256; b++) {
            boolean letter = b >= 'a' && b <= 'z' || b >= 'A' && b <= 'Z' || b == '_';
            boolean other = b >= '0' && b <= '9' || b == 9 || b == 10 || b == 13 || b == 32 || b == '#' || b == '^';
            if (!letter && !other) {
                fault(SIGNS.indexOf(b) >= 0 ? 2 : 1, "^" + (char) b);
            }
        }
        ChanceWorks x = new ChanceWorks();
        Check.due("program() of the byte 94", Check.program(x, "^"), -1);
        Check.due("its fault", x.fault(), 1);
        fault(1, "func main ( ) { return 1 ^. 5 ; }");
        fault(1, "var x ^\u0000;");
    }

    private static void comments() {
        fine(0, "#\nfunc main ( ) { }");
        fine(0, "func main ( ) { } # @ \" ( { \u00e9");
        fine(0, "func main ( ) { } #");
        fine(0, "func main ( ) { # }\n}");
        fine(0, "func#\nmain ( ) { }");
        fine(0, "## # \n## \nfunc main ( ) { }");
        fault(2, "^fu#\nnc main ( ) { }");
        // The byte 13 is a blank, but it does not end a comment.
        fault(2, "func main ( ) { # }\r}^");
        fault(1, "# @\n^@");
        fine(1, "func main ( ) { return 1 # 2\n; }");
    }

    private static void lengthsOfNames() {
        fine(0, "var a ;" + Texts.MAIN);
        fine(0, "var abcdefghijkl ;" + Texts.MAIN);
        fault(1, "var ^abcdefghijklm ;" + Texts.MAIN);
        fine(0, "var _23456789012 ;" + Texts.MAIN);
        fault(1, "var ^_234567890123 ;" + Texts.MAIN);
        fault(1, "^abcdefghijklm");
        fault(1, "func main ( ) { return 1 + ^" + Texts.many("z", 60) + " ; }");
        // Two names of twelve bytes that differ in their last one alone.
        fine(0, "var abcdefghijkl ; var abcdefghijkm ;" + Texts.MAIN);
        fault(10, "var abcdefghijkl ; var ^abcdefghijkl ;" + Texts.MAIN);
    }

    private static void lettersOfNames() {
        fine(0, "var _ ; var A ; var Z ; var a ; var z ; var A0 ; var A9 ; var z_ ; var __ ;" + Texts.MAIN);
        fault(2, "var ^0a ;");
        fault(2, "var ^9a ;");
        fine(0, "var x ; var X ;" + Texts.MAIN);
        fault(1, "var x^@ ;");
        fault(2, "var x^[ ;");
        fault(1, "var x^` ;");
        fault(2, "var x^{ ;");
        fault(2, "var x^/ ;");
        fault(2, "var x^: ;");
    }

    private static void lengthsOfNumbers() {
        numberOf("var x = 999999999 ;", 999999999);
        numberOf("var x = - 999999999 ;", -999999999);
        numberOf("var x = 000000000 ;", 0);
        numberOf("var x = 000000012 ;", 12);
        fault(1, "var x = ^1000000000 ;");
        fault(1, "var x = ^0000000000 ;");
        fault(1, "var x = - ^1000000000 ;");
        fault(1, "func main ( ) { return ^1234567890 ; }");
        fault(2, "var x = 123456789^a ;");
        fault(2, "var x = 1 ^2 ;");
    }

    private static void numberOf(String item, int want) {
        ChanceWorks x = Check.house(item + " func main ( ) { return x ; }");
        x.play(0, 1);
        Check.due("the number of " + item, x.played(1), want);
    }

    /** Each token is as long as may be. */
    private static void longestSigns() {
        fine(1, "var x;func main(){x=1==2;}");
        fine(1, "var x;func main(){x=!1!=!2;}");
        fine(1, "var x;func main(){x=1<=2;}");
        fine(1, "var x;func main(){x=1>=2;}");
        fault(2, "var x ; func main ( ) { x = 1 ==^= 2 ; }");
        fault(2, "var x ; func main ( ) { x = 1 !=^= 2 ; }");
        fault(2, "var x ; func main ( ) { x = 1 <=^= 2 ; }");
        fault(2, "var x ; func main ( ) { x = 1 >^> 2 ; }");
        fault(2, "var x ; func main ( ) { x = 1 <^> 2 ; }");
        fault(2, "var x ; func main ( ) { x = 1 ^= = 2 ; }");
        fault(2, "var x ; func main ( ) { x ^== 2 ; }");
        fault(2, "var x ; func main ( ) { x = 1 &^& 2 ; }");
        fault(2, "^varx ;");
        fine(2, "var x ; func main ( ) { local ifx = 1 ; x = ifx ; }");
    }

    private static void words() {
        for (String word : WORDS) {
            fault(2, "var ^" + word + " ;");
            fault(2, "func f ( ^" + word + " ) { }");
            fault(2, "func main ( ) { return ^" + word + " ; }");
            fine(0, "var " + word + "_ ; var " + word.toUpperCase() + " ; var x" + word + " ;" + Texts.MAIN);
        }
        fine(0, "var va ; var els ; var whil ; var choos ; var observ ; var retur ;" + Texts.MAIN);
        fault(17, "var main ;^");
    }

    private static void varItems() {
        fine(0, "var x ; var y = 1 ; var z = - 1 ;" + Texts.MAIN);
        fault(2, "var ^;");
        fault(2, "var x = ^;");
        fault(2, "var x = - ^;");
        fault(2, "var x = - ^- 1 ;");
        fault(2, "var x = ^! 1 ;");
        fault(2, "var x = ^( 1 ) ;");
        fault(2, "var y ; var x = ^y ;");
        fault(2, "var x = 1 ^+ 1 ;");
        fault(2, "var x ^- 1 ;");
        fault(2, "var x ^, y ;");
        fault(2, "var x ^[ 1 ] ;");
    }

    private static void arrayItems() {
        fault(2, "arr ^[ 1 ] ;");
        fault(2, "arr a ^= 1 ;");
        fault(2, "arr a [ ^] ;");
        fault(2, "arr a [ ^- 1 ] ;");
        fault(2, "var x ; arr a [ ^x ] ;");
        fault(2, "arr a [ 1 ^+ 1 ] ;");
        fault(2, "arr a [ 1 ] ^= 1 ;");
        fault(2, "arr a ^( 1 ) ;");
    }

    /** ( ) and { } may be empty where names, expressions of a call, statements stand; nowhere else. */
    private static void emptyBrackets() {
        fine(0, "func main ( ) { }");
        fine(2, "func f ( ) { } func main ( ) { local k = 0 ; f ( ) ; }");
        fine(2, "func f ( ) { } func main ( ) { local k = 0 ; k = f ( ) ; }");
        fineIn(1, "if 1 { }");
        fineIn(1, "if 1 { } else { }");
        fineIn(2, "if 1 { x = 1 ; } else { }");
        fineIn(2, "if 1 { } else { x = 1 ; }");
        fineIn(1, "while 1 { }");
        faultIn(2, "x ~ { ^} ;");
        faultIn(2, "x ~ pick ( ^) ;");
        faultIn(2, "x ~ flip ( ^) ;");
        faultIn(2, "x = choose ( ^) ;");
        faultIn(2, "x = ( ^) ;");
        faultIn(2, "x = a [ ^] ;");
        faultIn(2, "a [ ^] = 1 ;");
        faultIn(2, "if ^{ } }");
        faultIn(2, "while ^{ } }");
        faultIn(2, "^{ } }");
        faultIn(2, "^( ) ; }");
        fault(2, "func main ^{ }");
        fault(2, "func main ( ) ^;");
    }

    private static void callsAndDraws() {
        fineIn(3, "g ( 1 ) ; x = g ( 1 + 2 ) ; x ~ { 1 : 2 } ;");
        faultIn(2, "g ( 1 , ^) ; }");
        faultIn(2, "g ( ^, 1 ) ; }");
        faultIn(2, "g ( 1 ^2 ) ; }");
        faultIn(2, "g ( 1 ) ^}");
        faultIn(2, "g ( 1 ) ^= 1 ; }");
        faultIn(2, "x = g ( 1 ) ^* 2 ; }");
        faultIn(2, "x ~ pick ( 1 ^, 2 ) ; }");
        faultIn(2, "x ~ flip ( 1 ^) ; }");
        faultIn(2, "x ~ flip ( 1 , 2 ^, 3 ) ; }");
        faultIn(2, "x = choose ( 1 ^, 2 ) ; }");
        faultIn(2, "x ~ { 1 ^, 2 : 3 } ; }");
        faultIn(2, "x ~ { 1 : 2 , ^} ; }");
        faultIn(2, "x ~ { 1 : 2 ^: 3 } ; }");
        faultIn(2, "x ~ { 1 : 2 ^) ; }");
        faultIn(2, "x ~ ^x ; }");
        faultIn(2, "x ~ ^choose ( 2 ) ; }");
        faultIn(2, "x = ^pick ( 2 ) ; }");
        faultIn(2, "x = ^flip ( 1 , 2 ) ; }");
        faultIn(2, "x = ^{ 1 : 2 } ; }");
        faultIn(2, "x = 1 + ^choose ( 2 ) ; }");
        faultIn(2, "local y ^~ pick ( 2 ) ; }");
        faultIn(2, "local y = ^choose ( 2 ) ; }");
        faultIn(2, "local y ^; }");
        faultIn(2, "local a2 ^[ 1 ] = 1 ; }");
        faultIn(2, "local ^1 = 1 ; }");
        faultIn(2, "local y = g ^( 1 ) ; }");
        faultIn(2, "gain g ^( 1 ) ; }");
        faultIn(2, "observe g ^( 1 ) ; }");
        faultIn(2, "a [ 0 ] = g ^( 1 ) ; }");
        faultIn(2, "a [ g ^( 1 ) ] = 1 ; }");
        faultIn(2, "x = 1 + g ^( 1 ) ; }");
        faultIn(2, "x = - g ^( 1 ) ; }");
        faultIn(2, "g ( g ^( 1 ) ) ; }");
        faultIn(2, "if g ^( 1 ) { } }");
    }

    private static void elses() {
        fineIn(2, "if 1 { } else { if 2 { } else { } }");
        faultIn(2, "if 1 { } else ^if 2 { } }");
        faultIn(2, "if 1 { } else { } ^else { } }");
        faultIn(2, "^else { } }");
        faultIn(2, "while 1 { } ^else { } }");
        faultIn(2, "if 1 { } x = 1 ; ^else { } }");
        faultIn(2, "if 1 { while 1 { } ^else { } } }");
        fineIn(3, "if 1 { while 1 { } } else { x = 1 ; }");
    }

    /** same: sum, or: sum and one comparison and sum. */
    private static void comparisons() {
        for (String sign : new String[] {"==", "!=", "<", "<=", ">", ">="}) {
            fineIn(1, "x = 1 + 2 " + sign + " 3 * 4 ;");
            faultIn(2, "x = 1 " + sign + " 2 ^== 3 ; }");
            faultIn(2, "x = 1 < 2 ^" + sign + " 3 ; }");
            fineIn(1, "x = ( 1 " + sign + " 2 ) " + sign + " 3 ;");
            fineIn(1, "x = 1 " + sign + " 2 & 3 " + sign + " 4 | 5 " + sign + " 6 ;");
        }
        fineIn(1, "x = 1 < ( 2 < 3 ) ;");
        fineIn(1, "x = a [ 1 < 2 ] < 3 ;");
        fineIn(1, "x = ! - ! ! - - 1 ;");
        faultIn(2, "x = ^+ 1 ; }");
        faultIn(2, "x = 1 ^! 1 ; }");
        faultIn(2, "x = 1 - ^; }");
        faultIn(2, "x = ( 1 ^; }");
        faultIn(2, "x = 1 ^) ; }");
        faultIn(2, "x = a [ 1 ^) ; }");
        faultIn(2, "x = ( 1 ^] ; }");
        faultIn(2, "x = a [ 1 ] ^[ 1 ] ; }");
        faultIn(2, "x = ( x ) ^( 1 ) ; }");
        faultIn(2, "x = 1 ^2 ; }");
    }

    /** A text that is cut short at any of its tokens, has the fault 2 at its length. */
    private static void endsOfTheTape() {
        String text = "func main ( ) { if x { a [ 1 ] = f ; x ~ { 1 : 2 } ; } else { main ( ) ; } }";
        String items = "var x = - 1 ; arr a [ 2 ] ; var f ; ";
        String[] tokens = (items + text).split(" ");
        StringBuilder all = new StringBuilder();
        for (int n = 0; n < tokens.length; n++) {
            all.append(tokens[n]).append(' ');
            boolean ends = n == tokens.length - 1;
            boolean item = all.length() <= items.length() && tokens[n].equals(";");
            if (!ends) {
                fault(item ? 17 : 2, all + "^");
            }
        }
        fine(4, all.toString());
    }

    private static void namesAreToldAtOnce() {
        fault(10, "func f ( p , ^p ) { }");
        fine(1, "func f ( p , q ) { return p + q ; }" + Texts.MAIN);
    }

    private static void localsBehindTheirEnd() {
        fault(11, "func main ( ) { local y = ^y ; }");
        fine(2, "func main ( ) { local y = 1 ; local z = y ; }");
        fault(11, "func main ( ) { gain ^y ; local y = 1 ; }");
        fault(11, "func main ( ) { while 1 { gain ^y ; local y = 1 ; } }");
        // Behind it, it counts also where its block is left.
        fine(3, "func main ( ) { if 0 { local y = 1 ; } gain y ; }");
        fine(3, "func main ( ) { if 0 { local y = 1 ; } else { gain y ; } }");
        fault(10, "func main ( ) { if 0 { local y = 1 ; } else { local ^y = 2 ; } }");
        fault(11, "func f ( ) { local y = 1 ; } func main ( ) { gain ^y ; }");
        fault(11, "func f ( y ) { } func main ( ) { gain ^y ; }");
    }

    private static void itemsBehindTheirEnd() {
        fine(1, "func f ( f ) { return f ; }" + Texts.MAIN);
        fine(2, "func f ( ) { local f = 1 ; gain f ; }" + Texts.MAIN);
        fault(11, "func main ( ) { gain ^x ; } var x ;");
        fault(11, "func main ( ) { gain ^a [ 0 ] ; } arr a [ 1 ] ;");
        fault(10, "func f ( ) { } func h ( ^f ) { }");
        fine(1, "func main ( ) { f ( ) ; } func f ( ) { }");
        fine(1, "func main ( ) { main ( ) ; }");
    }

    private static void fortyOpen() {
        // main's { is one of those that are open; its ( ) are closed.
        fineIn(1, "x = " + Texts.many("( ", 39) + "1 " + Texts.many(") ", 39) + ";");
        faultIn(3, "x = " + Texts.many("( ", 39) + "^( 1");
        fineIn(1, "x = " + Texts.many("a [ ", 39) + "0 " + Texts.many("] ", 39) + ";");
        faultIn(3, "x = " + Texts.many("a [ ", 39) + "a ^[ 0");
        fineIn(1, Texts.many("a [ ", 39) + "0 " + Texts.many("] ", 39) + "= 1 ;");
        fineIn(39, Texts.many("if 1 { ", 39) + Texts.many("} ", 39));
        faultIn(3, Texts.many("if 1 { ", 39) + "if 1 ^{");
        fineIn(39, Texts.many("while 1 { ", 39) + Texts.many("} ", 39));
        faultIn(3, Texts.many("while 1 { ", 39) + "while 1 ^{");
        fineIn(39, Texts.many("if 1 { ", 38) + "if 1 { } else { }" + Texts.many("} ", 38));
        faultIn(3, Texts.many("if 1 { ", 38) + "while 1 { x = ^( 1");
        faultIn(3, Texts.many("if 1 { ", 39) + "g ^( 1");
        fineIn(39, Texts.many("if 1 { ", 38) + "g ( 1 ) ; " + Texts.many("} ", 38));
        faultIn(3, Texts.many("if 1 { ", 39) + "x = g ^( 1");
        faultIn(3, Texts.many("if 1 { ", 39) + "x ~ pick ^( 1");
        faultIn(3, Texts.many("if 1 { ", 39) + "x ~ flip ^( 1");
        faultIn(3, Texts.many("if 1 { ", 39) + "x ~ ^{ 1");
        faultIn(3, Texts.many("if 1 { ", 39) + "x = choose ^( 1");
        faultIn(3, Texts.many("if 1 { ", 39) + "a ^[ 0");
        fineIn(39, Texts.many("if 1 { ", 38) + "x ~ { 1 : 2 } ; " + Texts.many("} ", 38));
        fineIn(39, Texts.many("if 1 { ", 38) + "x = choose ( 1 ) ; " + Texts.many("} ", 38));
        // What is closed is not open any more, however often.
        fineIn(1, "x = " + Texts.many("( 1 ) + ", 60) + "a [ 0 ] ;");
        fineIn(100, Texts.many("if 1 { } ", 100));
        fine(3, "func main ( ) { if " + Texts.many("( ", 39) + "1 " + Texts.many(") ", 39) + " { x ( " + Texts.many("( ", 37) + "1 "
                + Texts.many(") ", 37) + " ) ; } } func x ( y ) { gain " + Texts.many("( ", 39) + "y " + Texts.many(") ", 39) + " ; }");
    }

    /** 10: an item's NAME among vars, arrays and functions; one in ( ) and a local's also among its function's. */
    private static void toldAlready() {
        String[] items = {"var @ ; ", "arr @ [ 1 ] ; ", "func @ ( ) { } "};
        for (String first : items) {
            for (String second : items) {
                fault(10, first.replace("@", "n") + second.replace("@", "^n"));
            }
            fault(10, first.replace("@", "n") + "func f ( ^n ) { }");
            fault(10, first.replace("@", "n") + "func f ( p , ^n ) { }");
            fault(10, first.replace("@", "n") + "func f ( ) { local ^n = 1 ; }");
        }
        fault(10, "func f ( n ) { local ^n = 1 ; }");
        fault(10, "func f ( ) { local n = 1 ; local ^n = 1 ; }");
        fault(10, "func f ( ) { while 1 { local n = 1 ; } local ^n = 1 ; }");
    }

    private static void notToldAlready() {
        fine(0, "func f ( n ) { } func h ( n ) { } var n ;" + Texts.MAIN);
        fine(1, "func f ( ) { local n = 1 ; } arr n [ 1 ] ;" + Texts.MAIN);
        fine(1, "func f ( ) { local n = 1 ; } func n ( ) { }" + Texts.MAIN);
        fine(2, "func f ( ) { local n = 1 ; } func h ( ) { local n = 1 ; }" + Texts.MAIN);
        fine(1, "func f ( n ) { local f = n ; }" + Texts.MAIN);
        fine(1, "func f ( ) { n ( ) ; } func n ( ) { } var m ;" + Texts.MAIN);
    }

    /** 11 where a variable is wanted: a NAME of an array, of a function, of none. */
    private static void variableWanted() {
        for (String name : new String[] {"a", "g", "none", "main"}) {
            faultIn(11, "gain ^" + name + " ; }");
            faultIn(11, "gain 1 + ^" + name + " * 2 ; }");
            faultIn(11, "gain a [ ^" + name + " ] ; }");
            faultIn(11, "^" + name + " = 1 ; }");
            faultIn(11, "^" + name + " ~ pick ( 2 ) ; }");
            faultIn(11, "^" + name + " = choose ( 2 ) ; }");
            faultIn(11, "^" + name + " = g ( 1 ) ; }");
            faultIn(11, "x = ^" + name + " ; }");
            faultIn(11, "x = ^" + name + " + 1 ; }");
            faultIn(11, "g ( ^" + name + " ) ; }");
            faultIn(11, "local y = ^" + name + " ; }");
            faultIn(11, "x ~ { ^" + name + " : 1 } ; }");
            faultIn(11, "x ~ { 1 : ^" + name + " } ; }");
            faultIn(11, "if ^" + name + " { } }");
        }
        fault(11, "func g ( p ) { } func main ( ) { gain ^p ; }");
        faultIn(11, "x = ^none");
        faultIn(11, "gain ^none 5 ; }");
    }

    /** 11 where an array is wanted: a NAME of a var, of a function, of its own, of none. */
    private static void arrayWanted() {
        for (String name : new String[] {"x", "g", "own", "none"}) {
            faultIn(11, "local own = 1 ; gain ^" + name + " [ 0 ] ; }");
            faultIn(11, "local own = 1 ; ^" + name + " [ 0 ] = 1 ; }");
            faultIn(11, "local own = 1 ; ^" + name + " [ 0 ] ~ pick ( 2 ) ; }");
            faultIn(11, "local own = 1 ; x = ^" + name + " [ 0 ] ; }");
        }
        fineIn(2, "a [ 0 ] = a [ 1 ] ; x = a [ a [ 0 ] ] ;");
    }

    /** What stands before ( is not looked at, nor a NAME with which a statement begins that is none. */
    private static void notLookedAt() {
        faultIn(2, "gain none ^( 1 ) ; }");
        faultIn(2, "gain x ^( 1 ) ; }");
        faultIn(2, "none ^; }");
        faultIn(2, "none ^+ 1 ; }");
        faultIn(2, "none ^{ }");
        faultIn(2, "none ^x ; }");
        faultIn(2, "x ^; }");
        faultIn(2, "none ^");
        faultIn(16, "^none ( ) ; }");
        faultIn(16, "x = ^x ( 1 ) ; }");
        faultIn(16, "^a ( 1 ) ; }");
    }

    private static void sizesOfArrays() {
        fault(12, "arr a [ ^0 ] ;");
        fine(0, "arr a [ 1 ] ;" + Texts.MAIN);
        fine(0, "arr a [ 8 ] ;" + Texts.MAIN);
        fault(12, "arr a [ ^9 ] ;");
        fault(12, "arr a [ ^000000000 ] ;");
        fault(12, "arr a [ ^999999999 ] ;");
        fault(12, "arr a [ ^9 ; ");
        fine(0, "arr a [ 08 ] ;" + Texts.MAIN);
    }

    private static void manyVars() {
        fine(0, Texts.items("var x% ;", 10) + Texts.MAIN);
        fault(15, Texts.items("var x% ;", 10) + "var ^y ;");
        fault(15, Texts.items("var x% ;", 5) + Texts.MAIN + Texts.items("var y% ;", 5) + "arr a [ 1 ] ; var ^y ;");
    }

    private static void manyArrays() {
        fine(0, Texts.items("arr x% [ 8 ] ;", 3) + Texts.MAIN);
        fault(15, Texts.items("arr x% [ 1 ] ;", 3) + "arr ^y [ 1 ] ;");
    }

    private static void manyFunctions() {
        fine(0, Texts.items("func x% ( ) { }", 9) + Texts.MAIN);
        fault(15, Texts.items("func x% ( ) { }", 10) + "func ^main ( ) { }");
        fine(9, Texts.items("func x% ( ) { x% ( ) ; }", 9) + Texts.MAIN);
    }

    private static void manyNames() {
        fine(0, "func f ( a , b , c , d ) { }" + Texts.MAIN);
        fault(15, "func f ( a , b , c , d , ^e ) { }");
        fault(2, "func f ( a , b , c , d , ^) { }");
    }

    private static void manyVariables() {
        String names = "func f ( a , b , c , d ) { " + Texts.items("local l% = 1 ;", 4);
        fine(4, names + "}" + Texts.MAIN);
        fault(15, names + "local ^x = 1 ; }");
        fine(8, "func main ( ) { " + Texts.items("local l% = 1 ;", 8) + "}");
        fault(15, "func main ( ) { " + Texts.items("local l% = 1 ;", 8) + "local ^x = 1 ; }");
        fault(15, "func main ( ) { " + Texts.items("if 0 { local l% = 1 ; }", 8) + "local ^x = 1 ; }");
        fine(16, "func f ( ) { " + Texts.items("local l% = 1 ;", 8) + "} func main ( ) { " + Texts.items("local l% = 1 ;", 8) + "}");
    }

    private static void manyStatements() {
        fine(150, "func main ( ) { " + Texts.many("gain 1 ; ", 150) + "}");
        fault(15, "func main ( ) { " + Texts.many("gain 1 ; ", 150) + "^gain 1 ; }");
        String[] firsts = {"local y = 1 ;", "none = 1 ;", "none", "if 1 { }", "while 1 { }", "return 1 ;", "observe 1 ;", "none [ 1 ] = 1 ;"};
        for (String first : firsts) {
            fault(15, "func main ( ) { " + Texts.many("gain 1 ; ", 150) + "^" + first + " }");
        }
        // All of the program count, and those inside others.
        fault(15, "func f ( ) { " + Texts.many("gain 1 ; ", 75) + "} func main ( ) { " + Texts.many("gain 1 ; ", 75) + "^gain 1 ; }");
        fault(15, "func main ( ) { " + Texts.many("if 1 { gain 1 ; } ", 75) + "^gain 1 ; }");
        fault(15, "func main ( ) { " + Texts.many("gain 1 ; ", 149) + "while 1 { ^gain 1 ; } }");
        fine(150, "func main ( ) { " + Texts.many("if 1 { } else { gain 1 ; } ", 75) + "}");
    }

    private static void manyPairs() {
        fineIn(1, "x ~ { 1 : 1 } ;");
        fineIn(1, "x ~ { " + Texts.many("1 : 1 , ", 7) + "1 : 1 } ;");
        faultIn(15, "x ~ { " + Texts.many("1 : 1 , ", 8) + "1 ^: 1 } ; }");
        fineIn(2, Texts.many("x ~ { " + Texts.many("1 : 1 , ", 7) + "1 : 1 } ; ", 2));
        faultIn(2, "x ~ { " + Texts.many("1 : 1 , ", 8) + "1 ^} ; }");
        faultIn(2, "x ~ { " + Texts.many("1 : 1 , ", 7) + "1 : 1 ^: 1 } ; }");
        faultIn(11, "x ~ { " + Texts.many("1 : 1 , ", 8) + "^none : 1 } ; }");
    }

    private static void oneBeforeTwo() {
        fault(1, "^@");
        fault(1, "var x = ^1234567890");
        fault(1, "func main ( ) { return 1 ^abcdefghijklm ; }");
        fault(1, "func main ( ) { ^1234567890 ; }");
        fault(1, Texts.items("var x% ;", 10) + "var ^abcdefghijklm ;");
        fault(1, "arr a [ ^1234567890 ] ;");
    }

    private static void twoBeforeThree() {
        faultIn(2, "x = " + Texts.many("( ", 39) + "1 ^( 1");
        faultIn(2, "x = " + Texts.many("( ", 39) + "^{ 1");
        faultIn(2, "x = " + Texts.many("( ", 39) + "none ^( 1");
        faultIn(2, Texts.many("if 1 { ", 39) + "^{");
        faultIn(2, Texts.many("if 1 { ", 39) + "x ^{");
        faultIn(2, Texts.many("if 1 { ", 39) + "x = 1 ^[");
    }

    /** 2 before 10 and 15 at a token: what cannot stand there, is not looked at further. */
    private static void theseBeforeTen() {
        fault(2, "var x ; var y ^x ;");
        fault(2, "func f ( a , b , c , d ^e ) { }");
        fault(2, "func main ( ) { " + Texts.many("gain 1 ; ", 150) + "^else { } }");
        fault(2, "func main ( ) { " + Texts.many("gain 1 ; ", 150) + "^1 ; }");
        fault(2, "func main ( ) { " + Texts.many("gain 1 ; ", 150) + "^");
        fault(2, Texts.items("var x% ;", 10) + "var ^= 1 ;");
        fault(2, Texts.items("var x% ;", 10) + "^x1 ;");
        faultIn(2, Texts.items("local l% = 1 ;", 8) + "local ^= 1 ;");
        faultIn(11, "x = " + Texts.many("( ", 39) + "^none [ 1");
    }

    private static void tenBeforeFifteen() {
        fault(10, Texts.items("var x% ;", 10) + "var ^x9 ;");
        fault(10, Texts.items("arr x% [ 1 ] ;", 3) + "arr ^x0 [ 1 ] ;");
        fault(10, Texts.items("func x% ( ) { }", 10) + "func ^x4 ( ) { }");
        fault(10, "func f ( a , b , c , d , ^a ) { }");
        fault(10, "func main ( ) { " + Texts.items("local l% = 1 ;", 8) + "local ^l7 = 1 ; }");
    }

    private static void theNextOneIsReadAtOnce() {
        // Behind a NAME that is looked at when the token behind it has been read.
        faultIn(1, "gain none ^@ }");
        faultIn(1, "none ^@ }");
        faultIn(1, "x = none ^@ }");
        faultIn(1, "gain none ^abcdefghijklm }");
        faultIn(11, "gain ^none ; @ }");
        faultIn(11, "^none = @ }");
        faultIn(11, "^none [ @ }");
        faultIn(11, "gain ^none [ @ }");
        faultIn(2, "gain none ^( @ }");
        // What is looked at as a token stands there, comes before the token behind it.
        fault(10, "var x ; var ^x @");
        fault(12, "arr a [ ^9 @");
        fault(15, Texts.items("var x% ;", 10) + "var ^y @");
        fault(15, "func main ( ) { " + Texts.many("gain 1 ; ", 150) + "^gain @ ; }");
        faultIn(15, "x ~ { " + Texts.many("1 : 1 , ", 8) + "1 ^: @ } ; }");
        faultIn(3, "x = " + Texts.many("( ", 39) + "^( @");
        faultIn(2, "gain ^; @ }");
    }

    private static void sixteen() {
        fault(16, "func main ( ) { ^f ( ) ; }");
        fault(16, "func main ( ) { ^f ( ) ; h ( ) ; }");
        fault(16, "var x ; func main ( ) { x = ^f ( ) ; }");
        fault(16, "func f ( p ) { } func main ( ) { ^f ( ) ; }");
        fault(16, "func f ( p ) { } func main ( ) { f ( 1 ) ; ^f ( 1 , 2 ) ; }");
        fault(16, "func f ( ) { } func main ( ) { ^f ( 1 ) ; }");
        fault(16, "func f ( a , b , c , d ) { } func main ( ) { f ( 1 , 2 , 3 , 4 ) ; ^f ( 1 , 2 , 3 , 4 , 5 ) ; }");
        fault(16, "func main ( ) { ^main ( 1 ) ; }");
        fault(16, "var v ; func main ( ) { ^v ( ) ; }");
        fault(16, "arr v [ 1 ] ; func main ( ) { ^v ( ) ; }");
        fault(16, "func main ( ) { ^f ( " + Texts.many("1 , ", 200) + "1 ) ; } func f ( p ) { }");
        // The faults of the text, however far behind, come first.
        fault(2, "func main ( ) { f ( ) ; } ^;");
        fault(10, "func main ( ) { f ( ) ; } var x ; var ^x ;");
        fault(1, "func main ( ) { f ( ) ; } ^@");
    }

    private static void sixteenBeforeSeventeen() {
        fault(16, "func f ( ) { ^h ( ) ; }");
        fault(16, "func f ( ) { ^main ( ) ; }");
        fault(16, "func main ( p ) { ^main ( ) ; }");
    }

    private static void seventeen() {
        fault(17, "var x ; ^");
        fault(17, "func f ( ) { } ^");
        fault(17, "func main ( p ) { } # main^");
        fault(17, "func mai ( ) { } func main1 ( ) { } func Main ( ) { }^");
        fault(17, "arr main [ 1 ] ;^");
        fault(17, "func main ( p ) { main ( 1 ) ; }^");
        fine(0, "func main ( ) { }");
    }
}
