/** What runs do (term 2), seen by plays: expressions, statements, calls, failures. */
public final class RunTest {
    public static void main(String[] args) {
        expressions();
        failures();
        statements();
        calls();
        Check.end();
    }

    private static long ends(String text) {
        ChanceWorks x = Check.house(text);
        Check.due("play of " + text, x.play(1, 2000), 1);
        return x.played(1);
    }

    private static void exp(String exp, long want) {
        Check.due(exp, ends("var m = 5; arr a[3]; func main() { local k = - 7; a[1] = 4; return " + exp + "; }"), want);
    }

    private static void expressions() {
        exp("1 + 2 * 3 - 4", 3);
        exp("(1 + 2) * 3", 9);
        exp("10 - 4 - 3", 3);
        exp("100 / 7 / 2", 7);
        exp("k / 2", -3);
        exp("k % 3", -1);
        exp("7 % - 3", 1);
        exp("0 - 7 / 2", -3);
        exp("- 2 * - 3", 6);
        exp("- - m", 5);
        exp("! m", 0);
        exp("! ! m", 1);
        exp("- ! 0", -1);
        exp("! 0 + 1", 2);
        exp("1 | 0 & 0", 1);
        exp("(1 | 0) & 0", 0);
        exp("7 & 8", 1);
        exp("0 | 9", 1);
        exp("1 + 1 == 2", 1);
        exp("3 < 2 | 2 <= 2 & 3 > 2", 1);
        exp("3 >= 4", 0);
        exp("3 != 3", 0);
        exp("a[1] + a[a[0] + 1] * a[2]", 4);
        exp("999999999 * 999999999", (int) (999999999L * 999999999L));
        exp("(0 - 999999999 - 999999999 - 147483650) / - 1", Integer.MIN_VALUE);
        exp("(0 - 999999999 - 999999999 - 147483650) % - 1", 0);
        exp("- (0 - 999999999 - 999999999 - 147483650)", Integer.MIN_VALUE);
        exp("m - k", 12);
    }

    private static void fails(String statement, long why) {
        String text = "var m = 5; var n; arr a[3]; func main() { local k = 0; n = 1; " + statement + " n = 2; return 9; }";
        ChanceWorks x = Check.house(text);
        Check.due("play of " + statement, x.play(1, 2000), 2);
        Check.due("why " + statement + " fails", x.played(1), why);
        Check.due("how many statements with " + statement, x.played(2), 3);
        Check.due("n after " + statement, x.played(6), 1);
    }

    private static void failures() {
        fails("k = a[3];", 1);
        fails("k = a[- 1];", 1);
        fails("a[3] = 1;", 1);
        fails("a[3] = 1 / 0;", 1);
        fails("a[1 / 0] = a[7];", 2);
        fails("a[9] ~ pick(0);", 1);
        fails("a[9] = choose(9);", 1);
        fails("k = a[5] + 1 / 0;", 1);
        fails("k = 1 / 0 + a[5];", 2);
        fails("k = m % (m - 5);", 2);
        fails("k = 0 & 1 / 0;", 2);
        fails("k = 1 | 1 % 0;", 2);
        fails("k ~ pick(0);", 3);
        fails("k ~ pick(65);", 3);
        fails("k ~ pick(- 1);", 3);
        fails("k ~ flip(0, 0);", 3);
        fails("k ~ flip(1, - 1);", 3);
        fails("k ~ flip(1000001, 1);", 3);
        fails("k ~ { 1 : 0, 2 : 0 };", 3);
        fails("k ~ { 1 : 5, 2 : 1000001 };", 3);
        fails("k ~ { 1 : - 5, 1 / 0 : 5 };", 2);
        fails("k = choose(0);", 5);
        fails("k = choose(9);", 5);
        fails("observe 1 / 0;", 2);
        fails("gain a[8];", 1);
        fails("return a[8];", 1);
        fails("if 1 / 0 { }", 2);
        fails("while a[4] { }", 1);
    }

    private static void statements() {
        Check.due("if", ends("func main() { if 2 { return 1; } else { return 2; } }"), 1);
        Check.due("else", ends("func main() { if 0 { return 1; } else { return 2; } }"), 2);
        Check.due("behind an empty if", ends("func main() { if 1 { } return 3; }"), 3);
        Check.due("behind an empty else", ends("func main() { if 0 { return 1; } else { } return 4; }"), 4);
        Check.due("while", ends("var i; var s; func main() { while i < 5 { i = i + 1; if i % 2 { s = s + i; } } return s; }"), 9);
        Check.due("nested", ends("var i; var j; var s; func main() { while i < 3 { j = 0; while j < 4 { s = s + 1; j = j + 1; } i = i + 1; } return s; }"), 12);
        Check.due("no return", ends("var s = 3; func main() { s = 4; }"), 0);
        Check.due("a local behind its block", ends("func main() { if 0 { local k = 5; } return k; }"), 0);
        ChanceWorks x = Check.house("var s; func main() { s = 1; observe 1; observe s - 1; s = 2; }");
        Check.due("a cut", x.play(0, 100), 3);
        Check.due("its number", x.played(1), 0);
        Check.due("its statements", x.played(2), 3);
        Check.due("its var", x.played(5), 1);
        ChanceWorks y = Check.house("func main() { while 1 { } }");
        Check.due("a run without end", y.play(0, 2000), 0);
        Check.due("its statements", y.played(2), 2000);
        ChanceWorks z = Check.house("func main() { while 1 { gain 999999999 * 2; } }");
        z.play(0, 2000);
        Check.due("its gain", z.played(4), 1000L * 1999999998);
    }

    private static void calls() {
        Check.due("sum by itself", ends("func main() { local s = 0; s = sum(10); return s; } func sum(n) { local s = 0; if n > 0 { s = sum(n - 1); } return s + n; }"), 55);
        Check.due("a function without end", ends("func f() { } func main() { local s = 5; s = f(); return s; }"), 0);
        Check.due("no number wanted", ends("func f(a, b) { return a - b; } func main() { local s = 5; f(1, 2); return s; }"), 5);
        Check.due("names in order", ends("func f(a, b, c, d) { return a * 1000 + b * 100 + c * 10 + d; } func main() { local s = 5; s = f(1, s - 3, 3, 4); return s; }"), 1234);
        Check.due("into a var", ends("var v; func f() { v = 3; return v + 1; } func main() { v = f(); return v; }"), 4);
        Check.due("returns that end others", ends("var v; func f(n) { v = v + 1; if n { f(n - 1); } } func main() { f(5); return v; }"), 6);
        Check.due("a call last of all returns 0", ends("var v; func f() { return 7; } func g() { v = f(); } func main() { local s = 5; s = g(); return s * 10 + v; }"), 7);
        Check.due("variables begin as 0", ends("func f(n) { if n { local k = 7; return k; } return k; } func main() { local s = 0; s = f(1); s = f(0); return s; }"), 0);
        Check.due("twelve calls", ends("func f(n) { local s = 0; if n { s = f(n - 1); } return s + 1; } func main() { local s = 0; s = f(10); return s; }"), 11);
        ChanceWorks x = Check.house("var v; func f(n) { v = v + 1; if n { f(n - 1); } } func main() { f(11); }");
        Check.due("thirteen calls", x.play(0, 1000), 2);
        Check.due("their failure", x.played(1), 4);
        Check.due("their var", x.played(5), 11);
        ChanceWorks y = Check.house("func e() { } func f(n) { if n { f(n - 1); } else { e(); } } func main() { f(10); }");
        Check.due("an empty function is a call too", y.play(0, 1000), 2);
        Check.due("its failure", y.played(1), 4);
        ChanceWorks z = Check.house("func f(n) { if n { f(n - 1); } else { f(1 / 0); } } func main() { f(10); }");
        z.play(0, 1000);
        Check.due("expressions are before the depth", z.played(1), 2);
        Check.due("main called again", ends("var v; func main() { v = v + 1; if v < 4 { main(); } return v; }"), 4);
    }
}
