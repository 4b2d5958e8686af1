/** One house used again, and two houses side by side: nothing of an earlier text, run, plan or ring is left. */
public final class AgainTest {
    public static void main(String[] args) {
        textsBehindFaults();
        fullTextsOneByOne();
        emptyMainBehindRuns();
        runsBehindOpenCalls();
        ringsOnceMore();
        ringsOfAnotherProgram();
        statesOfAnotherProgram();
        plansOfAnotherProgram();
        visitsOfAnotherProgram();
        playsOfAnotherProgram();
        shownAndTold();
        sideBySide();
        Check.end();
    }

    /** As deep, and with as many variables, as may be. */
    private static String fullText() {
        StringBuilder text = new StringBuilder();
        for (int n = 0; n < 10; n++) {
            text.append("var v").append(n).append(";");
        }
        text.append("arr a0[8];arr a1[8];arr a2[8];");
        for (int n = 0; n < 9; n++) {
            text.append("func f").append(n).append("(){}");
        }
        text.append("func main(){");
        for (int n = 0; n < 8; n++) {
            text.append("local l").append(n).append("=1;");
        }
        return text + "v0=" + "(".repeat(39) + "1" + ")".repeat(39) + ";v0~{1:1,1:1,1:1,1:1,1:1,1:1,1:1,1:1};}";
    }

    /** Texts that stop within brackets, blocks, functions, draws: the next one is read as the first. */
    private static void textsBehindFaults() {
        String[] faults = {
            "", "var", "var v0;", "arr a0[", "arr a0[8];arr a1[8];arr a2[8];arr", "func f0(l0,l1,l2,l3", "func f0(l0,l1,l2,l3){",
            "func main(){local l0=1;local l1=1;local l2=1;local l3=1;local l4=1;local l5=1;local l6=1;local l7=1;local",
            "func main(){" + "if 1{".repeat(39), "func main(){" + "while 1{".repeat(20) + "if 1{}else{", "func main(){gain " + "(".repeat(39),
            "arr a0[8];func main(){gain " + "a0[".repeat(30) + "1", "func main(){gain 1+2*3==4&5|6-", "var v0;func main(){v0~{1:1,1:",
            "func main(){" + "gain 1;".repeat(150) + "gain", "func main(){l0(", "var v0;func main(){v0=l0(1,", "func main(){nobody();}", "@",
        };
        for (String fault : faults) {
            ChanceWorks x = new ChanceWorks();
            Check.due("program() of " + fault, Check.program(x, fault) < 0 ? 1 : 0, 1);
            Check.due("program() behind " + fault, Check.program(x, fullText()), 10);
            Check.due("fault() then", x.fault(), 0);
            Check.due("vars", x.count(0), 10);
            Check.due("arrays", x.count(1), 3);
            Check.due("functions", x.count(2), 10);
            Check.due("statements", x.count(3), 10);
            Check.due("play", x.play(1, 2000), 1);
            Check.due("program() of " + fault + " once more", Check.program(x, fault) < 0 ? 1 : 0, 1);
            Check.due("statements stay", x.count(3), 10);
            Check.due("the play stays", x.played(2), 10);
            Check.due("as many blocks behind " + fault, Check.program(x, blocks()), 41);
            Check.due("their play", x.play(1, 2000), 1);
            Check.due("what is within them all", x.played(4), 5);
            Check.due("what is behind them all", x.played(1), 6);
        }
    }

    private static String blocks() {
        return "func main(){" + "if 1{".repeat(39) + "gain 5;" + "}".repeat(39) + "return 6;}";
    }

    private static void fullTextsOneByOne() {
        ChanceWorks x = new ChanceWorks();
        for (int n = 1; n <= 5; n++) {
            Check.due("full text " + n, Check.program(x, fullText()), 10);
            Check.due("its arrays", x.count(1), 3);
            Check.due("its states", x.explore(1000), 10);
        }
        Check.due("a short text", Check.program(x, "func main(){}"), 0);
        for (int what = 0; what <= 10; what++) {
            Check.due("count(" + what + ") of a short text", x.count(what), what == 2 ? 1 : 0);
        }
        Check.due("a var that is not told any more", Check.program(x, "func main(){gain v0;}"), -18);
        Check.due("its code", x.fault(), 11);
        Check.due("an array that is not told any more", Check.program(x, "func main(){gain a0[0];}"), -18);
        Check.due("its code", x.fault(), 11);
        Check.due("a function that is not told any more", Check.program(x, "func main(){f0();}"), -13);
        Check.due("its code", x.fault(), 16);
        Check.due("a local that is not told any more", Check.program(x, "func main(){gain l0;}"), -18);
        Check.due("no main any more", Check.program(x, "var v0;"), -8);
        Check.due("its code", x.fault(), 17);
    }

    private static void emptyMainBehindRuns() {
        String[] texts = {"func main(){return 5;}", "func f(){return 6;}func main(){f();return 0-7;}", "func main(){gain 8;observe 0;}",
            "func f(){f();}func main(){f();}", "var v;func main(){v~pick(3);return v+1;}"};
        for (String text : texts) {
            ChanceWorks x = Check.solved(text);
            x.play(3, 2000);
            Check.due("an empty main", Check.program(x, "var v=4;func main(){}"), 0);
            Check.due("its play behind " + text, x.play(3, 2000), 1);
            long[] want = {1, 0, 0, 0, 0, 4};
            for (int what = 0; what < want.length; what++) {
                Check.due("played(" + what + ") behind " + text, x.played(what), want[what]);
            }
            Check.due("explore() behind " + text, x.explore(1), 0);
            Check.due("ending(0, NONE) behind " + text, x.ending(0, -1), 0);
            Check.due("ending(0, 0) behind " + text, x.ending(0, 0), 4);
            Check.due("endings behind " + text, x.count(5), 1);
            Check.due("nexts behind " + text, x.count(6), 0);
            Check.due("solve() behind " + text, x.solve(), 0);
            Check.due("the odds of 0 behind " + text, Check.show(x, 0, 0), "1/1");
        }
    }

    /** A play that STOPS, FAILS or is CUT within calls leaves nothing to the next one. */
    private static void runsBehindOpenCalls() {
        String text = "var v=1;arr a[2];func f(p){local q=p;a[1]=a[1]+1;if p{q=f(p-1);}observe v;return q+1;}"
                + "func main(){local k=0;k=f(11);return k;}";
        ChanceWorks x = Check.house(text);
        for (int most : new int[] {5, 2000, 17, 2000, 0, 2000}) {
            int how = x.play(0, most);
            Check.due("how a play of " + most + " ends", how, most == 2000 ? 2 : 0);
            Check.due("what it fails with", x.played(1), most == 2000 ? 4 : 0);
            Check.due("a cell then", x.played(7), most == 2000 ? 11 : (most + 1) / 4);
        }
        Check.due("explore", x.explore(1000) > 0 ? 1 : 0, 1);
        Check.due("the beginning is main's alone", x.state(0, 1), 1);
        Check.due("a cell of the beginning", x.value(0, -1, 2), 0);
        Check.due("another play", x.play(0, 2000), 2);
    }

    private static void ringCounts(String what, ChanceWorks x, int rings, int greatest, int hopeless) {
        Check.due("rings " + what, x.count(7), rings);
        Check.due("states of the greatest " + what, x.count(8), greatest);
        Check.due("hopeless ones " + what, x.count(10), hopeless);
    }

    private static void ringsOnceMore() {
        ChanceWorks x = Check.explored("var v;func main(){v~pick(2);while v{}while 1{v=0;}}");
        ringCounts("at first", x, 2, 2, 5);
        for (int n = 0; n < 3; n++) {
            Check.due("explore again", x.explore(1000), 5);
            ringCounts("explored again", x, 2, 2, 5);
        }
        x.solve();
        x.best();
        ringCounts("solved", x, 2, 2, 5);
        Check.due("SPENT", x.explore(4), -1);
        ringCounts("SPENT", x, 0, 0, 0);
        x.explore(5);
        ringCounts("explored behind it", x, 2, 2, 5);
    }

    private static void ringsOfAnotherProgram() {
        ChanceWorks x = Check.explored("var v;func main(){while 1{v=(v+1)%9;}}");
        ringCounts("of a great ring", x, 1, 18, 18);
        Check.due("best() of it", x.best(), -2);
        Check.program(x, "var v;func main(){v=1;v=2;gain 3;}");
        x.explore(1000);
        ringCounts("of none", x, 0, 0, 0);
        Check.due("best() of none", x.best(), 0);
        Check.due("its worth", Check.show(x, 11, 0), "3/1");
        Check.program(x, "var v;func main(){while v<1{v~pick(2);}}");
        x.explore(1000);
        ringCounts("of a small ring", x, 1, 2, 0);
    }

    private static void statesOfAnotherProgram() {
        ChanceWorks x = Check.explored("var v;var c;func main(){v~pick(50);c=choose(8);gain v;return c;}");
        Check.due("states that choose", x.count(9), 50);
        Check.program(x, "var v;func main(){v~pick(2);v=v+1;while 1{}}");
        Check.due("states", x.explore(1000), 5);
        Check.due("states that choose then", x.count(9), 0);
        Check.due("endings then", x.count(5), 0);
        Check.due("nexts then", x.count(6), 6);
        Check.due("state(1, 3)", x.state(1, 3), 0);
        Check.due("decided(1)", Check.of(() -> x.decided(1)), "IndexOutOfBoundsException");
        Check.due("hopeless ones then", x.count(10), 5);
        Check.program(x, "var v;func main(){v=choose(3);gain v;}");
        Check.due("states at last", x.explore(1000), 4);
        Check.due("hopeless ones at last", x.count(10), 0);
        Check.due("decided(0)", x.decided(0), 0);
        Check.due("ending(0, 0)", x.ending(0, 0), 0);
        Check.due("ending(3, 0)", Check.of(() -> x.ending(3, 0)), "IndexOutOfBoundsException");
    }

    private static void plansOfAnotherProgram() {
        ChanceWorks x = Check.explored("var c;func main(){c=choose(8);gain c;}");
        Check.due("best()", x.best(), 0);
        Check.due("the eighth is the best", x.decided(0), 7);
        x.solve();
        Check.program(x, "var c;func main(){c=choose(3);gain 4;}");
        Check.due("no worth of another program", Check.of(() -> x.show(11, 0)), "IllegalStateException");
        x.explore(1000);
        Check.due("no worth before best()", Check.of(() -> x.show(11, 0)), "IllegalStateException");
        Check.due("the plan takes 0", x.decided(0), 0);
        Check.due("best() of another", x.best(), 0);
        Check.due("the first of three that are alike", x.decided(0), 0);
        Check.due("its worth", Check.show(x, 11, 0), "4/1");
        Check.program(x, "var c;func main(){c=choose(2);gain 0-c;}");
        x.explore(1000);
        x.decide(0, 1);
        Check.due("best() of a third", x.best(), 0);
        Check.due("the first is better", x.decided(0), 0);
        Check.due("its worth", Check.show(x, 11, 0), "0/1");
        Check.due("best() once more", x.best(), 0);
        Check.due("the first again", x.decided(0), 0);
        Check.program(x, "func main(){return 3;}");
        x.explore(1000);
        Check.due("best() without a choice", x.best(), 0);
        Check.due("its worth", Check.show(x, 11, 0), "0/1");
    }

    private static void visitsOfAnotherProgram() {
        ChanceWorks x = Check.solved("var v;func main(){while v==0{v~flip(1,9);}}");
        Check.due("visits of a ring", Check.show(x, 8, 0), "10/1");
        Check.program(x, "var v;func main(){v~pick(2);if v{while 1{}}return 3;}");
        Check.due("visits of another program", Check.of(() -> x.show(8, 0)), "IllegalStateException");
        x.explore(1000);
        Check.due("visits before solve()", Check.of(() -> x.show(8, 0)), "IllegalStateException");
        Check.due("solve()", x.solve(), 0);
        Check.due("visits then", Check.show(x, 8, 0), "1/1");
        Check.due("LOST then", Check.show(x, 5, 0), "1/2");
        Check.due("visits of all then", Check.show(x, 9, 0), "2/1");
        Check.due("what runs END with then", Check.show(x, 10, 0), "3/1");
    }

    private static void playsOfAnotherProgram() {
        ChanceWorks x = Check.house("var v=7;func main(){v~pick(5);gain 9;return v;}");
        x.play(1, 2000);
        Check.program(x, "var u;var v;func main(){gain 1/0;}");
        for (int what = 0; what < 7; what++) {
            Check.due("played(" + what + ") of another program", x.played(what), 0);
        }
        x.play(1, 2000);
        long[] want = {2, 2, 1, 0, 0, 0, 0};
        for (int what = 0; what < want.length; what++) {
            Check.due("played(" + what + ") of its play", x.played(what), want[what]);
        }
        Check.due("the odds of its play", Check.show(x, 12, 0), "1/1");
    }

    /** What is SHOWN and what is TOLD are no part of a program. */
    private static void shownAndTold() {
        ChanceWorks x = Check.house("var v;func main(){v~pick(9);}");
        x.tell(4);
        x.walk(9);
        x.show(12, 0);
        Check.program(x, "var v;func main(){v~pick(5);}");
        Check.due("what is shown stays", Check.fraction(x, 1), "1/9");
        Check.due("what is told stays", x.walk(9), 1);
        Check.due("it is drawn", x.played(5), 4);
        Check.due("forget()", x.forget(), 1);
    }

    private static void sideBySide() {
        ChanceWorks x = new ChanceWorks();
        ChanceWorks y = new ChanceWorks();
        Check.feed(x, "var v=1;func main(){v=choose(2);gain v;return 11;}");
        Check.due("the other tape", y.count(11), 0);
        Check.feed(y, "var v=2;var w;func main(){v~pick(3);while v{}return 22;}");
        Check.due("one program", x.program(), 3);
        Check.due("the other program", y.program(), 3);
        x.explore(1000);
        Check.due("the other is not explored", y.count(4), 0);
        y.explore(1000);
        x.best();
        x.solve();
        y.solve();
        x.tell(1);
        y.tell(2);
        y.tell(2);
        x.play(1, 100);
        y.walk(1);
        Check.due("one plan", x.decided(0), 1);
        Check.due("one's odds", Check.show(x, 0, 11), "1/1");
        Check.due("the other's odds", Check.show(y, 6, 0), "1/3");
        Check.due("one's is shown still", Check.fraction(x, 1), "1/1");
        Check.due("one's play", x.played(1), 11);
        Check.due("the other's play", y.played(5), 2);
        Check.due("one's vars", x.count(0), 1);
        Check.due("the other's vars", y.count(0), 2);
        Check.due("one's told", x.forget(), 1);
        Check.due("the other's told", y.forget(), 2);
    }
}
