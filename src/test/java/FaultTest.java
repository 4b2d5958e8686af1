/** Promises 4 and 5: program and fault, with every code and which of two comes first. */
public final class FaultTest {
    private static final String MAIN = " func main ( ) { }";

    public static void main(String[] args) {
        tokens();
        places();
        brackets();
        told();
        numbers();
        called();
        order();
        keeps();
        Check.end();
    }

    /** The fault of a text must be this one, at the place of the mark ^ (which is taken out). */
    private static void fault(int code, String marked) {
        int place = marked.indexOf('^');
        String text = marked.substring(0, place) + marked.substring(place + 1);
        ChanceWorks x = new ChanceWorks();
        Check.due("program() of " + marked, Check.program(x, text), -1 - place);
        Check.due("fault() of " + marked, x.fault(), code);
        Check.due("count(11) after " + marked, x.count(11), 0);
        Check.due("count(2) after " + marked, x.count(2), 0);
    }

    private static void fine(int statements, String text) {
        ChanceWorks x = new ChanceWorks();
        Check.due("program() of " + text, Check.program(x, text), statements);
        Check.due("fault() of " + text, x.fault(), 0);
    }

    private static void tokens() {
        fault(1, "^@");
        fault(1, "var x; ^\u00e9");
        fault(1, "var ^abcdefghijklm;");
        fault(1, "var x = ^1234567890;");
        fault(1, "func main() { ^.5; }");
        fault(1, "var x ^\"");
        fine(0, "var abcdefghijkl = 123456789; func main() { }");
        fine(0, "var _A9z; # all is quiet } @\n" + MAIN);
        fine(0, MAIN + "#");
        fine(1, "func\tmain\r(\n){return 1<=2;}");
        fault(2, "func main() { return 1 < ^= 2; }");
        fault(2, "func main() { return 1 ^= 2; }");
        fine(1, "func main() { return 1 == 2; }");
        fault(2, "var x = 12^ab;");
        fine(1, "var x; func main() { x = 1; # x = @\n }");
    }

    private static void places() {
        fault(2, "^x");
        fault(2, "^;");
        fault(2, "^local x = 1;");
        fault(2, "var ^= 1;");
        fault(2, "var ^if;");
        fault(2, "var x ^5;");
        fault(2, "var x = ^x;");
        fault(2, "var x = - ^- 5;");
        fault(2, "arr a ^;");
        fault(2, "arr a [ ^x ];");
        fault(2, "func f ^{ }");
        fault(2, "func f ( a , ^) { }");
        fault(2, "func f ( ^, ) { }");
        fault(2, "func f ( a ^b ) { }");
        fault(2, "func main ( ) { ^");
        fault(2, "func main ( ) { return 1 ^} ");
        fault(2, "func main ( ) { return ^; }");
        fault(2, "func main ( ) { ^else { } }");
        fault(2, "func main ( ) { if 1 { } else { } ^else { } }");
        fault(2, "func main ( ) { while 1 { } ^else { } }");
        fault(2, "func main ( ) { if 1 ^return 2 ; }");
        fault(2, "func main ( ) { ^pick ( 3 ) ; }");
        fault(2, "func main ( ) { ^5 ; }");
        fault(2, "var x ; func main ( ) { x ^; }");
        fault(2, "var x ; func main ( ) { x ^< 1 ; }");
        fault(2, "var x ; func main ( ) { x = ^; }");
        fault(2, "var x ; func main ( ) { x = ^pick ( 3 ) ; }");
        fault(2, "var x ; func main ( ) { x ~ ^choose ( 3 ) ; }");
        fault(2, "var x ; func main ( ) { x ~ ^3 ; }");
        fault(2, "var x ; func main ( ) { x = choose ( ^) ; }");
        fault(2, "var x ; func main ( ) { x = choose ( 1 ^, 2 ) ; }");
        fault(2, "var x ; func main ( ) { x ~ { 1 ^} ; }");
        fault(2, "var x ; func main ( ) { x ~ { 1 : 2 , ^} ; }");
        fault(2, "var x ; func main ( ) { x = 1 == 1 ^== 1 ; }");
        fault(2, "var x ; func main ( ) { x = 1 < 2 ^>= 1 ; }");
        fine(1, "var x ; func main ( ) { x = ( 1 == 1 ) == 1 & 2 < 3 | 4 != 4 ; }");
        fault(2, "var x ; func main ( ) { x = ( 1 + 2 ^] ; }");
        fault(2, "arr a [ 2 ] ; func main ( ) { return a [ 1 ^) ; }");
        fault(2, "var x ; func main ( ) { x = 1 + ^* 2 ; }");
        fault(2, "var x ; func main ( ) { x = f ( 1 ) ^+ 1 ; } func f ( a ) { }");
        fault(2, "var x ; func main ( ) { x = ( f ^( 1 ) ) ; } func f ( a ) { }");
        fault(2, "func f ( ) { } func main ( ) { local x = f ^( ) ; }");
        fault(2, "func f ( ) { } func main ( ) { return f ^( ) ; }");
        fault(2, "arr a [ 2 ] ; func main ( ) { a [ 0 ] ^; }");
        fault(2, "arr a [ 2 ] ; func main ( ) { a [ 0 ] ^( ) ; }");
        fine(3, "var x ; func main ( ) { x = - ! - ! ! x ; main ( ) ; x = main ( ) ; }");
    }

    private static String many(String text, int times) {
        StringBuilder all = new StringBuilder();
        for (int n = 0; n < times; n++) {
            all.append(text);
        }
        return all.toString();
    }

    private static void brackets() {
        fine(1, "func main ( ) { return " + many("(", 39) + "1" + many(")", 39) + " ; }");
        fault(3, "func main ( ) { return " + many("(", 39) + "^(1" + many(")", 40) + " ; }");
        fine(40, "func main ( ) { " + many("if 1 { ", 39) + "return 1 ; " + many("} ", 40));
        fault(3, "func main ( ) { " + many("if 1 { ", 39) + "if 1 ^{ }");
        fault(3, "arr a [ 1 ] ; func main ( ) { return " + many("a [ ", 39) + "a ^[ 0");
        fault(3, "func main ( ) { " + many("while 1 { ", 39) + "main ^( ) ;");
        fault(2, "func main ( ) { return " + many("(", 39) + "main ^(");
        fault(11, "func main ( ) { return " + many("(", 39) + "^b [");
        fine(1, "func main ( ) { return " + many("- ", 900) + "1 ; }");
    }

    private static void told() {
        fault(10, "var x ; arr ^x [ 2 ] ;");
        fault(10, "arr x [ 2 ] ; func ^x ( ) { }");
        fault(10, "func x ( ) { } var ^x ;");
        fault(10, "var x ; func f ( ^x ) { }");
        fault(10, "func g ( ) { } func f ( a , ^g ) { }");
        fault(10, "func f ( a ) { local ^a = 1 ; }");
        fault(10, "func f ( a ) { if a { local b = 1 ; } local ^b = 2 ; }");
        fault(10, "func g ( ) { } func f ( a ) { local ^g = 1 ; }");
        fine(3, "func f ( f ) { local g = f ; } func g ( a ) { local b = a ; } func main ( ) { local main = 1 ; } var a ; var b ;");
        fine(2, "func main ( ) { if 1 { local b = 0 ; } } func f ( b ) { } var b ;");
        fault(11, "func main ( ) { return ^x ; } var x ;");
        fault(11, "func main ( ) { ^x ~ pick ( 3 ) ; }");
        fault(11, "func f ( ) { } func main ( ) { ^f = 1 ; }");
        fault(11, "func f ( ) { } func main ( ) { return ^f ; }");
        fault(11, "var x ; func main ( ) { return ^x [ 0 ] ; }");
        fault(11, "arr a [ 2 ] ; func main ( ) { return 1 + ^a ; }");
        fault(11, "func f ( a ) { } func main ( ) { return ^a ; }");
        fault(11, "func main ( ) { local y = ^y ; }");
        fault(11, "func main ( ) { ^y [ 0 ] = 1 ; }");
        fine(2, "func main ( ) { local y = 1 ; } func f ( ) { local y = 2 ; }");
        fine(3, "func main ( ) { if 0 { local y = 1 ; } return y ; }");
    }

    private static void numbers() {
        fault(12, "arr a [ ^0 ] ;");
        fault(12, "arr a [ ^9 ] ;");
        fault(12, "arr a [ ^999999999 ] ;");
        fine(0, "arr a [ 000000008 ] ; arr b [ 1 ] ;" + MAIN);
        fault(15, vars(10) + "var ^y ;");
        fine(0, vars(10) + MAIN);
        fault(10, vars(10) + "var ^x0 ;");
        fault(15, "arr a [ 1 ] ; arr b [ 1 ] ; arr c [ 1 ] ; arr ^d [ 1 ] ;");
        fault(15, functions(10) + "func ^main ( ) { }");
        fine(0, functions(9) + MAIN);
        fault(15, "func f ( a , b , c , d , ^e ) { }");
        fault(10, "func f ( a , b , c , d , ^d ) { }");
        fault(15, "func f ( a , b , c , d ) { local e = 1 ; local f = 1 ; local g = 1 ; local h = 1 ; local ^i = 1 ; }");
        fine(4, "func f ( a , b , c , d ) { local e = 1 ; local f = 1 ; local g = 1 ; local h = 1 ; }" + MAIN);
        fine(150, "func main ( ) { " + many("gain 1 ; ", 149) + "if 1 { } }");
        fault(15, "func main ( ) { " + many("gain 1 ; ", 150) + "^gain 1 ; }");
        fault(15, "func main ( ) { " + many("gain 1 ; ", 100) + "} func f ( ) { " + many("gain 1 ; ", 50) + "^y ; }");
        fault(2, "func main ( ) { " + many("gain 1 ; ", 150) + "^pick ; }");
        fine(1, "var x ; func main ( ) { x ~ { 1:1,2:1,3:1,4:1,5:1,6:1,7:1,8:1 } ; }");
        fault(15, "var x ; func main ( ) { x ~ { 1:1,2:1,3:1,4:1,5:1,6:1,7:1,8:1,9^:1 } ; }");
        fault(2, "var x ; func main ( ) { x ~ { 1:1,2:1,3:1,4:1,5:1,6:1,7:1,8:1,9^} ; }");
    }

    private static String vars(int many) {
        StringBuilder all = new StringBuilder();
        for (int n = 0; n < many; n++) {
            all.append("var x").append(n).append(" ; ");
        }
        return all.toString();
    }

    private static String functions(int many) {
        StringBuilder all = new StringBuilder();
        for (int n = 0; n < many; n++) {
            all.append("func f").append(n).append(" ( ) { } ");
        }
        return all.toString();
    }

    private static void called() {
        fault(16, "func main ( ) { ^f ( ) ; g ( ) ; }");
        fault(16, "func main ( ) { f ( 1 ) ; ^f ( ) ; } func f ( a ) { }");
        fault(16, "var x ; func main ( ) { x = ^x ( ) ; }");
        fault(16, "func main ( ) { ^f ( 1 , 2 , 3 , 4 , 5 , 6 ) ; } func f ( a ) { }");
        fault(16, "func f ( ) { ^g ( ) ; }");
        fault(17, "func f ( ) { f ( ) ; } ^");
        fault(17, "func main ( a ) { }  # ^");
        fault(17, "^");
        fine(2, "func main ( ) { main ( ) ; g ( 1 , 2 ) ; } func g ( a , b ) { }");
    }

    /** As a token is taken the next one is read: so what is looked at behind a NAME comes after a bad token there. */
    private static void order() {
        fault(1, "func main ( ) { y ^@ ; }");
        fault(1, "func main ( ) { return y ^@ ; }");
        fault(10, "var x ; var ^x @");
        fault(12, "arr a [ ^9 @");
        fault(3, "func main ( ) { return " + many("(", 39) + "^( @");
        fault(2, "func main ( ) { y ^; z @ }");
        fault(11, "func main ( ) { return ^y 5 ; }");
        fault(11, "func main ( ) { ^y = @ ; }");
        fault(1, "func main ( ) { f ( ) ; } ^@");
        fault(2, "func main ( ) { f ( ) ; } ^}");
    }

    private static void keeps() {
        ChanceWorks x = Check.explored("var a = 7; func main() { gain a; return a; }");
        x.solve();
        x.play(1, 10);
        Check.due("program() with a fault", Check.program(x, "var b"), -6);
        Check.due("fault()", x.fault(), 2);
        Check.due("count(3)", x.count(3), 2);
        Check.due("count(4)", x.count(4), 2);
        Check.due("the gain", Check.show(x, 7, 0), "7/1");
        Check.due("played(1)", x.played(1), 7);
        Check.due("program() that is fine", Check.program(x, "func main() { }"), 0);
        Check.due("fault()", x.fault(), 0);
        Check.due("count(0)", x.count(0), 0);
        Check.due("count(4)", x.count(4), 0);
        Check.due("solve()", Check.of(x::solve), "IllegalStateException");
        Check.due("show(7, 0)", Check.of(() -> x.show(7, 0)), "IllegalStateException");
        Check.due("show(12, 0)", Check.of(() -> x.show(12, 0)), "IllegalStateException");
        Check.due("played(1)", x.played(1), 0);
        Check.due("played(5)", Check.of(() -> x.played(5)), "IndexOutOfBoundsException");
        Check.due("what is shown stays", x.limb(0, 0), 7);
    }
}
