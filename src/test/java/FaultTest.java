/** Promises 4 and 5: program and fault, with every code and which of two comes first. */
public final class FaultTest {
    public static void main(String[] args) {
        tokens();
        places();
        brackets();
        told();
        numbers();
        called();
        order();
        keeps();
        Check.end();
    }

    private static void tokens() {
        Texts.fault(1, "^@");
        Texts.fault(1, "var x; ^\u00e9");
        Texts.fault(1, "var ^abcdefghijklm;");
        Texts.fault(1, "var x = ^1234567890;");
        Texts.fault(1, "func main() { ^.5; }");
        Texts.fault(1, "var x ^\"");
        Texts.fine(0, "var abcdefghijkl = 123456789; func main() { }");
        Texts.fine(0, "var _A9z; # all is quiet } @\n" + Texts.MAIN);
        Texts.fine(0, Texts.MAIN + "#");
        Texts.fine(1, "func\tmain\r(\n){return 1<=2;}");
        Texts.fault(2, "func main() { return 1 < ^= 2; }");
        Texts.fault(2, "func main() { return 1 ^= 2; }");
        Texts.fine(1, "func main() { return 1 == 2; }");
        Texts.fault(2, "var x = 12^ab;");
        Texts.fine(1, "var x; func main() { x = 1; # x = @\n }");
    }

    private static void places() {
        Texts.fault(2, "^x");
        Texts.fault(2, "^;");
        Texts.fault(2, "^local x = 1;");
        Texts.fault(2, "var ^= 1;");
        Texts.fault(2, "var ^if;");
        Texts.fault(2, "var x ^5;");
        Texts.fault(2, "var x = ^x;");
        Texts.fault(2, "var x = - ^- 5;");
        Texts.fault(2, "arr a ^;");
        Texts.fault(2, "arr a [ ^x ];");
        Texts.fault(2, "func f ^{ }");
        Texts.fault(2, "func f ( a , ^) { }");
        Texts.fault(2, "func f ( ^, ) { }");
        Texts.fault(2, "func f ( a ^b ) { }");
        Texts.fault(2, "func main ( ) { ^");
        Texts.fault(2, "func main ( ) { return 1 ^} ");
        Texts.fault(2, "func main ( ) { return ^; }");
        Texts.fault(2, "func main ( ) { ^else { } }");
        Texts.fault(2, "func main ( ) { if 1 { } else { } ^else { } }");
        Texts.fault(2, "func main ( ) { while 1 { } ^else { } }");
        Texts.fault(2, "func main ( ) { if 1 ^return 2 ; }");
        Texts.fault(2, "func main ( ) { ^pick ( 3 ) ; }");
        Texts.fault(2, "func main ( ) { ^5 ; }");
        Texts.fault(2, "var x ; func main ( ) { x ^; }");
        Texts.fault(2, "var x ; func main ( ) { x ^< 1 ; }");
        Texts.fault(2, "var x ; func main ( ) { x = ^; }");
        Texts.fault(2, "var x ; func main ( ) { x = ^pick ( 3 ) ; }");
        Texts.fault(2, "var x ; func main ( ) { x ~ ^choose ( 3 ) ; }");
        Texts.fault(2, "var x ; func main ( ) { x ~ ^3 ; }");
        Texts.fault(2, "var x ; func main ( ) { x = choose ( ^) ; }");
        Texts.fault(2, "var x ; func main ( ) { x = choose ( 1 ^, 2 ) ; }");
        Texts.fault(2, "var x ; func main ( ) { x ~ { 1 ^} ; }");
        Texts.fault(2, "var x ; func main ( ) { x ~ { 1 : 2 , ^} ; }");
        Texts.fault(2, "var x ; func main ( ) { x = 1 == 1 ^== 1 ; }");
        Texts.fault(2, "var x ; func main ( ) { x = 1 < 2 ^>= 1 ; }");
        Texts.fine(1, "var x ; func main ( ) { x = ( 1 == 1 ) == 1 & 2 < 3 | 4 != 4 ; }");
        Texts.fault(2, "var x ; func main ( ) { x = ( 1 + 2 ^] ; }");
        Texts.fault(2, "arr a [ 2 ] ; func main ( ) { return a [ 1 ^) ; }");
        Texts.fault(2, "var x ; func main ( ) { x = 1 + ^* 2 ; }");
        Texts.fault(2, "var x ; func main ( ) { x = f ( 1 ) ^+ 1 ; } func f ( a ) { }");
        Texts.fault(2, "var x ; func main ( ) { x = ( f ^( 1 ) ) ; } func f ( a ) { }");
        Texts.fault(2, "func f ( ) { } func main ( ) { local x = f ^( ) ; }");
        Texts.fault(2, "func f ( ) { } func main ( ) { return f ^( ) ; }");
        Texts.fault(2, "arr a [ 2 ] ; func main ( ) { a [ 0 ] ^; }");
        Texts.fault(2, "arr a [ 2 ] ; func main ( ) { a [ 0 ] ^( ) ; }");
        Texts.fine(3, "var x ; func main ( ) { x = - ! - ! ! x ; main ( ) ; x = main ( ) ; }");
    }

    private static void brackets() {
        Texts.fine(1, "func main ( ) { return " + Texts.many("(", 39) + "1" + Texts.many(")", 39) + " ; }");
        Texts.fault(3, "func main ( ) { return " + Texts.many("(", 39) + "^(1" + Texts.many(")", 40) + " ; }");
        Texts.fine(40, "func main ( ) { " + Texts.many("if 1 { ", 39) + "return 1 ; " + Texts.many("} ", 40));
        Texts.fault(3, "func main ( ) { " + Texts.many("if 1 { ", 39) + "if 1 ^{ }");
        Texts.fault(3, "arr a [ 1 ] ; func main ( ) { return " + Texts.many("a [ ", 39) + "a ^[ 0");
        Texts.fault(3, "func main ( ) { " + Texts.many("while 1 { ", 39) + "main ^( ) ;");
        Texts.fault(2, "func main ( ) { return " + Texts.many("(", 39) + "main ^(");
        Texts.fault(11, "func main ( ) { return " + Texts.many("(", 39) + "^b [");
        Texts.fine(1, "func main ( ) { return " + Texts.many("- ", 900) + "1 ; }");
    }

    private static void told() {
        Texts.fault(10, "var x ; arr ^x [ 2 ] ;");
        Texts.fault(10, "arr x [ 2 ] ; func ^x ( ) { }");
        Texts.fault(10, "func x ( ) { } var ^x ;");
        Texts.fault(10, "var x ; func f ( ^x ) { }");
        Texts.fault(10, "func g ( ) { } func f ( a , ^g ) { }");
        Texts.fault(10, "func f ( a ) { local ^a = 1 ; }");
        Texts.fault(10, "func f ( a ) { if a { local b = 1 ; } local ^b = 2 ; }");
        Texts.fault(10, "func g ( ) { } func f ( a ) { local ^g = 1 ; }");
        Texts.fine(3, "func f ( f ) { local g = f ; } func g ( a ) { local b = a ; } func main ( ) { local main = 1 ; } var a ; var b ;");
        Texts.fine(2, "func main ( ) { if 1 { local b = 0 ; } } func f ( b ) { } var b ;");
        Texts.fault(11, "func main ( ) { return ^x ; } var x ;");
        Texts.fault(11, "func main ( ) { ^x ~ pick ( 3 ) ; }");
        Texts.fault(11, "func f ( ) { } func main ( ) { ^f = 1 ; }");
        Texts.fault(11, "func f ( ) { } func main ( ) { return ^f ; }");
        Texts.fault(11, "var x ; func main ( ) { return ^x [ 0 ] ; }");
        Texts.fault(11, "arr a [ 2 ] ; func main ( ) { return 1 + ^a ; }");
        Texts.fault(11, "func f ( a ) { } func main ( ) { return ^a ; }");
        Texts.fault(11, "func main ( ) { local y = ^y ; }");
        Texts.fault(11, "func main ( ) { ^y [ 0 ] = 1 ; }");
        Texts.fine(2, "func main ( ) { local y = 1 ; } func f ( ) { local y = 2 ; }");
        Texts.fine(3, "func main ( ) { if 0 { local y = 1 ; } return y ; }");
    }

    private static void numbers() {
        Texts.fault(12, "arr a [ ^0 ] ;");
        Texts.fault(12, "arr a [ ^9 ] ;");
        Texts.fault(12, "arr a [ ^999999999 ] ;");
        Texts.fine(0, "arr a [ 000000008 ] ; arr b [ 1 ] ;" + Texts.MAIN);
        Texts.fault(15, Texts.items("var x% ;", 10) + "var ^y ;");
        Texts.fine(0, Texts.items("var x% ;", 10) + Texts.MAIN);
        Texts.fault(10, Texts.items("var x% ;", 10) + "var ^x0 ;");
        Texts.fault(15, "arr a [ 1 ] ; arr b [ 1 ] ; arr c [ 1 ] ; arr ^d [ 1 ] ;");
        Texts.fault(15, Texts.items("func f% ( ) { }", 10) + "func ^main ( ) { }");
        Texts.fine(0, Texts.items("func f% ( ) { }", 9) + Texts.MAIN);
        Texts.fault(15, "func f ( a , b , c , d , ^e ) { }");
        Texts.fault(10, "func f ( a , b , c , d , ^d ) { }");
        Texts.fault(15, "func f ( a , b , c , d ) { local e = 1 ; local f = 1 ; local g = 1 ; local h = 1 ; local ^i = 1 ; }");
        Texts.fine(4, "func f ( a , b , c , d ) { local e = 1 ; local f = 1 ; local g = 1 ; local h = 1 ; }" + Texts.MAIN);
        Texts.fine(150, "func main ( ) { " + Texts.many("gain 1 ; ", 149) + "if 1 { } }");
        Texts.fault(15, "func main ( ) { " + Texts.many("gain 1 ; ", 150) + "^gain 1 ; }");
        Texts.fault(15, "func main ( ) { " + Texts.many("gain 1 ; ", 100) + "} func f ( ) { " + Texts.many("gain 1 ; ", 50) + "^y ; }");
        Texts.fault(2, "func main ( ) { " + Texts.many("gain 1 ; ", 150) + "^pick ; }");
        Texts.fine(1, "var x ; func main ( ) { x ~ { 1:1,2:1,3:1,4:1,5:1,6:1,7:1,8:1 } ; }");
        Texts.fault(15, "var x ; func main ( ) { x ~ { 1:1,2:1,3:1,4:1,5:1,6:1,7:1,8:1,9^:1 } ; }");
        Texts.fault(2, "var x ; func main ( ) { x ~ { 1:1,2:1,3:1,4:1,5:1,6:1,7:1,8:1,9^} ; }");
    }

    private static void called() {
        Texts.fault(16, "func main ( ) { ^f ( ) ; g ( ) ; }");
        Texts.fault(16, "func main ( ) { f ( 1 ) ; ^f ( ) ; } func f ( a ) { }");
        Texts.fault(16, "var x ; func main ( ) { x = ^x ( ) ; }");
        Texts.fault(16, "func main ( ) { ^f ( 1 , 2 , 3 , 4 , 5 , 6 ) ; } func f ( a ) { }");
        Texts.fault(16, "func f ( ) { ^g ( ) ; }");
        Texts.fault(17, "func f ( ) { f ( ) ; } ^");
        Texts.fault(17, "func main ( a ) { }  # ^");
        Texts.fault(17, "^");
        Texts.fine(2, "func main ( ) { main ( ) ; g ( 1 , 2 ) ; } func g ( a , b ) { }");
    }

    /** As a token is taken the next one is read: so what is looked at behind a NAME comes after a bad token there. */
    private static void order() {
        Texts.fault(1, "func main ( ) { y ^@ ; }");
        Texts.fault(1, "func main ( ) { return y ^@ ; }");
        Texts.fault(10, "var x ; var ^x @");
        Texts.fault(12, "arr a [ ^9 @");
        Texts.fault(3, "func main ( ) { return " + Texts.many("(", 39) + "^( @");
        Texts.fault(2, "func main ( ) { y ^; z @ }");
        Texts.fault(11, "func main ( ) { return ^y 5 ; }");
        Texts.fault(11, "func main ( ) { ^y = @ ; }");
        Texts.fault(1, "func main ( ) { f ( ) ; } ^@");
        Texts.fault(2, "func main ( ) { f ( ) ; } ^}");
    }

    private static void keeps() {
        ChanceWorks x = Check.explored("var a = 7; func main() { gain a; return a; }");
        x.solve();
        x.play(1, 10);
        Check.due("program() with a fault", Check.program(x, "var b"), -6);
        Check.due("fault()", x.fault(), 2);
        Check.due("count(3)", x.count(3), 2);
        Check.due("count(4)", x.count(4), 2);
        Check.due("the gain", Check.show(x, 7, 0), "7/1");
        Check.due("played(1)", x.played(1), 7);
        Check.due("program() that is fine", Check.program(x, "func main() { }"), 0);
        Check.due("fault()", x.fault(), 0);
        Check.due("count(0)", x.count(0), 0);
        Check.due("count(4)", x.count(4), 0);
        Check.due("solve()", Check.of(x::solve), "IllegalStateException");
        Check.due("show(7, 0)", Check.of(() -> x.show(7, 0)), "IllegalStateException");
        Check.due("show(12, 0)", Check.of(() -> x.show(12, 0)), "IllegalStateException");
        Check.due("played(1)", x.played(1), 0);
        Check.due("played(5)", Check.of(() -> x.played(5)), "IndexOutOfBoundsException");
        Check.due("what is shown stays", x.limb(0, 0), 7);
    }
}
