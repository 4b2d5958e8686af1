/** Houses that are full: as many vars, cells, functions, variables, calls, statements and endings as there can be. */
public final class FullTest {
    private static final int SHARED = 34;
    private static final String INDEX = "IndexOutOfBoundsException";

    public static void main(String[] args) {
        varsAndCells();
        cellsThatAreDrawn();
        variablesOfTwelveCalls();
        tenFunctions();
        hundredFiftyStatements();
        deepExpressions();
        thousandTables();
        theLastOfManyTables();
        widestTable();
        Check.end();
    }

    /** Ten vars with 1 .. 10, three arrays whose 24 cells become 11 .. 34. */
    private static String shared(String more) {
        StringBuilder text = new StringBuilder();
        for (int n = 0; n < 10; n++) {
            text.append("var x").append(n).append("=").append(n + 1).append(";");
        }
        text.append("arr a[8];arr b[8];arr c[8];func main(){");
        for (int n = 0; n < 24; n++) {
            text.append("abc".charAt(n / 8)).append("[").append(n % 8).append("]=").append(n + 11).append(";");
        }
        return text.append(more).append("}").toString();
    }

    private static void varsAndCells() {
        ChanceWorks x = Check.explored(shared("return x9+a[7]+b[7]+c[7];"));
        int last = x.count(4) - 1;
        Check.due("states", last, 24);
        Check.due("calls of the last", x.state(last, 1), 1);
        Check.due("statement of the last", x.state(last, 0), 24);
        x.play(0, 2000);
        for (int i = 0; i < SHARED; i++) {
            Check.due("value(" + last + ", NONE, " + i + ")", x.value(last, -1, i), i + 1);
            Check.due("value(0, NONE, " + i + ")", x.value(0, -1, i), i < 10 ? i + 1 : 0);
            Check.due("ending(0, " + i + ")", x.ending(0, i), i + 1);
            Check.due("played(" + (5 + i) + ")", x.played(5 + i), i + 1);
        }
        Check.due("ending(0, NONE)", x.ending(0, -1), 10 + 18 + 26 + 34);
        Check.due("played(1)", x.played(1), 10 + 18 + 26 + 34);
        Check.due("value(0, NONE, 34)", Check.of(() -> x.value(0, -1, SHARED)), INDEX);
        Check.due("ending(0, 34)", Check.of(() -> x.ending(0, SHARED)), INDEX);
        Check.due("played(39)", Check.of(() -> x.played(5 + SHARED)), INDEX);
        Check.due("solve()", x.solve(), 0);
        Check.due("independent(33, 0)", x.independent(33, 0) ? 1 : 0, 1);
        Check.due("independent(34, 0)", Check.of(() -> x.independent(SHARED, 0) ? 1 : 0), INDEX);
        Check.due("independent(0, 34)", Check.of(() -> x.independent(0, SHARED) ? 1 : 0), INDEX);
        Check.due("given(0, 1, 34)", Check.of(() -> x.given(0, 1, SHARED) ? 1 : 0), INDEX);
    }

    /** States and endings that differ in the last cells alone are others. */
    private static void cellsThatAreDrawn() {
        ChanceWorks x = Check.solved(shared("c[7]~pick(3);c[6]~pick(2);b[0]=c[6];return 5;"));
        Check.due("endings", x.count(5), 6);
        for (int e = 0; e < 6; e++) {
            Check.due("the last cell of ending " + e, x.ending(e, 33), e / 2);
            Check.due("the one before it of ending " + e, x.ending(e, 32), e % 2);
            Check.due("the weight of ending " + e, Check.show(x, 2, e), "1/6");
            Check.due("the number of ending " + e, x.ending(e, -1), 5);
        }
        Check.due("independent(33, 32)", x.independent(33, 32) ? 1 : 0, 1);
        Check.due("independent(32, 18)", x.independent(32, 18) ? 1 : 0, 0);
        Check.due("given(33, 32, 18)", x.given(33, 32, 18) ? 1 : 0, 1);
        Check.due("given(32, 18, 33)", x.given(32, 18, 33) ? 1 : 0, 0);
    }

    /** Twelve open calls, each with eight variables of its own, beside all vars and cells. */
    private static void variablesOfTwelveCalls() {
        String f = "func f(p,q,r,s){local t=p*10+5;local u=p*10+6;local v=p*10+7;local w=p*10+8;"
                + "if p<11{w=f(p+1,p*10+12,p*10+13,p*10+14);}return w;}";
        ChanceWorks x = Check.house(f + shared("local k=0;local l=91;k=f(1,12,13,14);return k;"));
        Check.due("explore", x.explore(1000) > 0 ? 1 : 0, 1);
        int deepest = 0;
        for (int k = 0; k < x.count(4); k++) {
            deepest = x.state(k, 1) >= x.state(deepest, 1) && x.state(k, 0) == 4 ? k : deepest;
        }
        int state = deepest;
        Check.due("calls that are open", x.state(state, 1), 12);
        Check.due("main's second", x.value(state, 0, 1), 91);
        Check.due("main's third", Check.of(() -> x.value(state, 0, 2)), INDEX);
        for (int c = 1; c < 12; c++) {
            Check.due("the first of call " + c, x.value(state, c, 0), c);
            for (int i = 1; i < 8; i++) {
                Check.due("variable " + i + " of call " + c, x.value(state, c, i), c * 10 + i + 1);
            }
        }
        Check.due("a ninth variable", Check.of(() -> x.value(state, 11, 8)), INDEX);
        Check.due("a thirteenth call", Check.of(() -> x.value(state, 12, 0)), INDEX);
        Check.due("the last cell", x.value(state, -1, 33), 34);
        Check.due("what the run ENDS with", x.ending(0, -1), 118);
    }

    private static void tenFunctions() {
        StringBuilder text = new StringBuilder("func main(){local k=0;k=f8(1,2,3,4);return k;}");
        for (int n = 0; n < 9; n++) {
            text.append("func f").append(n).append("(a,b,c,d){");
            text.append(n == 0 ? "return a*1000+b*100+c*10+d;" : "a=f" + (n - 1) + "(b,c,d,a);return a;").append("}");
        }
        ChanceWorks x = Check.house(text.toString());
        Check.due("functions", x.count(2), 10);
        Check.due("play", x.play(0, 2000), 1);
        Check.due("what comes back through ten functions", x.played(1), 1234);
    }

    private static void hundredFiftyStatements() {
        ChanceWorks x = Check.explored("var v;func main(){" + "v=v+1;".repeat(149) + "return v;}");
        Check.due("states", x.count(4), 150);
        Check.due("the last statement", x.state(149, 0), 149);
        Check.due("what the run ENDS with", x.ending(0, -1), 149);
    }

    /** Five operations wait in each of 39 brackets. */
    private static void deepExpressions() {
        ChanceWorks x = Check.house("func main(){return " + "0|1&2==1+1*(".repeat(39) + "2" + ")".repeat(39) + ";}");
        // 1 + 1 * 2 is not 2: the innermost is 0, then 1 + 0 is not 2 either.
        Check.due("play", x.play(0, 9), 1);
        Check.due("what waits in 39 brackets", x.played(1), 0);
        ChanceWorks y = Check.house("func main(){return " + "0|1&2==1+1*(".repeat(38) + "0|1&2==1+1*(1" + ")".repeat(39) + ";}");
        y.play(0, 9);
        Check.due("what waits in 39 brackets, with another end", y.played(1), 1);
    }

    /** 1000 endings, each with a number of its own in the third. */
    private static void thousandTables() {
        String last = "w~{u*40+v*8:1,u*40+v*8+1:2,u*40+v*8+2:3,u*40+v*8+3:4,u*40+v*8+4:5,u*40+v*8+5:6,u*40+v*8+6:7,u*40+v*8+7:8};";
        ChanceWorks x = Check.solved("var u;var v;var w;func main(){u~pick(25);v~pick(5);" + last + "}");
        Check.due("endings", x.count(5), 1000);
        Check.due("given(0, 1, 2), with 1000 tables", x.given(0, 1, 2) ? 1 : 0, 1);
        Check.due("given(2, 2, 2)", x.given(2, 2, 2) ? 1 : 0, 1);
        Check.due("given(0, 2, 1), with 5 tables of 25 and 200", x.given(0, 2, 1) ? 1 : 0, 0);
        Check.due("independent(2, 2), with 1000 and 1000", x.independent(2, 2) ? 1 : 0, 0);
        Check.due("independent(0, 1)", x.independent(0, 1) ? 1 : 0, 1);
    }

    /** 960 tables of one ending each, and one of 40 (or 39, where two hang together) behind them. */
    private static void theLastOfManyTables() {
        String each = "w~{u*40+v*8:1,u*40+v*8+1:2,u*40+v*8+2:3,u*40+v*8+3:4,u*40+v*8+4:5,u*40+v*8+5:6,u*40+v*8+6:7,u*40+v*8+7:8};";
        for (int off = 0; off <= 1; off++) {
            ChanceWorks x = Check.solved("var u;var v;var w=5000;var y;func main(){u~pick(25);v~pick(5);if u<24{" + each + "}else{y~pick(8-(v==4)*" + off + ");}}");
            Check.due("endings", x.count(5), 1000 - off);
            Check.due("given(1, 3, 2), off by " + off, x.given(1, 3, 2) ? 1 : 0, 1 - off);
            Check.due("given(3, 1, 2), off by " + off, x.given(3, 1, 2) ? 1 : 0, 1 - off);
            Check.due("given(1, 3, 0), off by " + off, x.given(1, 3, 0) ? 1 : 0, 1 - off);
        }
    }

    /** As wide a table as 1000 endings can fill, all of whose cells count, the last one too. */
    private static void widestTable() {
        for (int off = 0; off <= 1; off++) {
            String last = off == 0 ? "" : "if v==31{v~{31:9,0:1};}";
            ChanceWorks x = Check.solved("var u;var v;func main(){u~pick(31);if u<30{v~pick(32);}else{v~pick(32);" + last + "}}");
            Check.due("endings", x.count(5), 992);
            Check.due("independent(0, 1) of 31 and 32, off by " + off, x.independent(0, 1) ? 1 : 0, 1 - off);
            Check.due("independent(1, 0) of 32 and 31, off by " + off, x.independent(1, 0) ? 1 : 0, 1 - off);
        }
    }
}
