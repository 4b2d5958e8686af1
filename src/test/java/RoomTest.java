import java.lang.management.ManagementFactory;

/**
 * All calls of one run live in one room of 600,000 objects and 7.3 million fields and elements. What is counted
 * here are the bytes that a run makes: a field or element has one byte at least (most have four), an object
 * sixteen. So a run of a few million bytes is far below both, whatever it consists of.
 */
public final class RoomTest {
    private static final String[] DEAR = {
        "var s; var i; func main() { while i < 5 { s ~ pick(64); i = i + 1; } return s % 3; }",
        "var s; var t; func main() { s ~ pick(15); t ~ pick(64); }",
        "var s; var c; func main() { c ~ pick(25); while 1 { s ~ { s + 1 : 97 - s, (s * 3) % 10 : 55 + c, 100 : 1 + c }; if s >= 10 { return s; } } }",
        "var s; var t; var u; func main() { s ~ pick(60); t ~ flip(999983 - s * 11, 1000 + s * s); u ~ flip(5 + s * 17 + t, 900000); t ~ flip(5 + s * 17 + t * u, 900000 - s); }",
        "arr a[8]; arr b[8]; arr c[8]; func f(p, q, r, s) { local t = 0; local u = 0; t ~ pick(2); if p > 0 { u = f(p - 1, q + t, r, s); } return u + t; } func main() { local x = 0; x = f(5, 0, 0, 0); return x; }",
        // 981 states of up to twelve open calls with all their variables.
        "var x; func f(p, q, r, s) { local t = 0; local u = 0; local w = 0; local y = 0; if p { u = f(p - 1, q, r, s); } else { while x < 450 { x = x + 1; } } return u; } func main() { local y = 0; y = f(10, 0, 0, 0); }",
    };

    private static int calls;

    public static void main(String[] args) {
        // The first use of the class makes what the machine itself needs.
        use(new ChanceWorks(), DEAR[0]);
        longerWeights();
        longerTables();
        longerRings();
        longerWorths();
        longerPlays();
        measure("one object", 1, 24);
        measure("many objects", 24, 1);
        long before = bytes();
        for (int n = 0; n < 512; n++) {
            new ChanceWorks();
        }
        report("512 new objects", bytes() - before, 12000000);
        longText();
        Check.end();
    }

    /** Five programs of up to 992 endings, each with longer weights than the one before: 133 calls. */
    private static void longerWeights() {
        String low = "y~{b*16+x*8+0:67771-x*15228+b*15015,b*16+x*8+1:66352-x*15228+b*15015,b*16+x*8+2:64933-x*15228+b*15015,b*16+x*8+3:63514-x*15228+b*15015,b*16+x*8+4:62095-x*15228+b*15015,b*16+x*8+5:60676-x*15228+b*15015,b*16+x*8+6:59257-x*15228+b*15015,b*16+x*8+7:78619-x*15228+b*15015};}";
        String high = "y~{b*16+x*8+0:909795-x*6844+b*23,b*16+x*8+1:902201-x*6844+b*23,b*16+x*8+2:894607-x*6844+b*23,b*16+x*8+3:887013-x*6844+b*23,b*16+x*8+4:879419-x*6844+b*23,b*16+x*8+5:871825-x*6844+b*23,b*16+x*8+6:864231-x*6844+b*23,b*16+x*8+7:856637-x*6844+b*23};}";
        String head = "var b;var x;var y;func main(){b~pick(62);";
        String one = "x~flip(996917-x*65656,b/2*30030+b%2*26274+21252);";
        String two = one + "x~flip(997357-x*6302,b/2*30030+b%2*46098+20346);";
        String four = "x~flip(995443-x*1638,b/2*30030+b%2*16540+6774);x~flip(997973-x*4120,b/2*30030+b%2*18258+3366);x~flip(996035-x*5946,b/2*30030+b%2*2384+13338);x~flip(995535-x*5286,b/2*30030+b%2*18744+9034);";
        String six = two + "x~flip(996855-x*65436,b/2*30030+b%2*51626+7172);x~flip(997751-x*31346,b/2*30030+b%2*3804+25298);x~flip(996351-x*55440,b/2*30030+b%2*58500+4808);x~flip(996563-x*43720,b/2*30030+b%2*41316+5148);";
        String[] texts = {head + high, head + one + low, head + two + low, head + four + high, head + six + low};
        int[] states = {63, 187, 311, 559, 807};
        calls = 0;
        long before = bytes();
        ChanceWorks x = new ChanceWorks();
        for (int n = 0; n < texts.length; n++) {
            begin(x, texts[n], states[n]);
            Check.due("endings of program " + n, x.count(5), n == 0 ? 496 : 992);
            Check.due("solve() of program " + n, x.solve(), 0);
            Check.due("given(0, 1, 2) of program " + n, x.given(0, 1, 2) ? 1 : 0, 1);
            calls += 3;
        }
        Check.due("calls of the run", calls, 133);
        report("longer weights", bytes() - before, 1500000);
        for (int n = 0; n < texts.length; n++) {
            begin(x, texts[n], states[n]);
            x.solve();
            Check.due("given(1, 2, 0) of program " + n, x.given(1, 2, 0) ? 1 : 0, n == 0 ? 1 : 0);
            Check.due("independent(0, 1) of program " + n, x.independent(0, 1) ? 1 : 0, n == 0 ? 1 : 0);
            showAll(x);
        }
        Check.due("at most 512 calls", calls <= 512 ? 1 : 0, 1);
        report("longer weights, all shown", bytes() - before, 2000000);
    }

    /** Draws that hang on b (so that their totals have little in common), so many of them. */
    private static String draws(int many) {
        StringBuilder all = new StringBuilder();
        for (int n = 0; n < many; n++) {
            all.append("c~flip(").append(990001 + n * 1237 % 7919).append("-c*").append(1009 + n * 97).append(",b*");
            all.append(4999 - n * 211).append("+").append(201101 + n * 30011).append(");");
        }
        return all.toString();
    }

    /** A table of 8 by 64 whose cells have long sums. */
    private static void longerTables() {
        calls = 0;
        long before = bytes();
        ChanceWorks x = new ChanceWorks();
        for (int many = 1; many <= 6; many++) {
            String text = "var x;var y;func main(){local b=0;local c=0;b~pick(18);" + draws(many)
                    + "x~{0:1,1:2,2:3,3:4,4:5,5:6,6:7,7:8};y~pick(64);}";
            begin(x, text, 345 + 36 * (many - 1));
            Check.due("solve() with " + many + " draws", x.solve(), 0);
            Check.due("independent(0, 1) with " + many + " draws", x.independent(0, 1) ? 1 : 0, 1);
            Check.due("given(1, 0, 0) with " + many + " draws", x.given(1, 0, 0) ? 1 : 0, 1);
            showAll(x);
        }
        Check.due("at most 512 calls", calls <= 512 ? 1 : 0, 1);
        report("longer tables", bytes() - before, 2500000);
    }

    /** A ring of 30, to which runs come from 80 states whose visits have long numbers together. */
    private static void longerRings() {
        calls = 0;
        long before = bytes();
        ChanceWorks x = new ChanceWorks();
        for (int many = 1; many <= 6; many++) {
            String text = "var s;var t;func f(){local b=0;local c=0;b~pick(40);" + draws(many) + "return 0;}"
                    + "func main(){t=f();while s<15{s~{s+1:999983-s*97,0:999979-s*s,15:s*s*s};}gain s*99999999;t~pick(3);return s;}";
            begin(x, text, 80 + 80 * many);
            Check.due("solve() with " + many + " draws", x.solve(), 0);
            showAll(x);
        }
        Check.due("at most 512 calls", calls <= 512 ? 1 : 0, 1);
        report("longer rings", bytes() - before, 1500000);
    }

    /** Worths that are long before they are brought to lowest terms. */
    private static void longerWorths() {
        calls = 0;
        long before = bytes();
        ChanceWorks x = new ChanceWorks();
        for (int many = 1; many <= 6; many++) {
            String text = "var t;func main(){local b=0;local c=0;t~pick(2);b~pick(20);" + draws(many) + "t=choose(2);gain b-c*t;}";
            Check.program(x, text);
            Check.due("explored with " + many + " draws", x.explore(1000) > 40 * many ? 1 : 0, 1);
            x.best();
            calls += 3 + (text.length() + 19) / 20;
        }
        Check.due("at most 512 calls", calls <= 512 ? 1 : 0, 1);
        report("longer worths", bytes() - before, 1000000);
    }

    private static void longerPlays() {
        long before = bytes();
        ChanceWorks x = Check.house("var i; var t; func main() { while 1 { t ~ { 1 : 999983 - i, 2 : 999979 + i % 20, 3 : 1 }; i = i + 1; t ~ flip(1 + i, 999961 - i); } }");
        for (int most = 10; most <= 2000; most += 10) {
            Check.due("a play of " + most, x.play(most, most), 0);
            x.show(12, 0);
        }
        report("longer plays", bytes() - before, 500000);
    }

    /** One text takes nearly all calls. */
    private static void longText() {
        StringBuilder text = new StringBuilder("var v;func main(){v=");
        while (text.length() < 10000) {
            text.append("(1)*-");
        }
        text.append("1;}");
        long before = bytes();
        ChanceWorks x = Check.house(text.toString());
        x.play(0, 10);
        report("a long text", bytes() - before, 1500000);
    }

    private static void begin(ChanceWorks x, String text, int states) {
        int from = 0;
        for (; from < text.length(); from += 20) {
            calls++;
        }
        StringBuilder padded = new StringBuilder(text);
        while (padded.length() < from) {
            padded.append(' ');
        }
        for (int at = 0; at < from; at += 20) {
            x.feed(word(padded, at), word(padded, at + 4), word(padded, at + 8), word(padded, at + 12), word(padded, at + 16));
        }
        Check.due("a program", x.program() > 0 ? 1 : 0, 1);
        Check.due("explore(1000)", x.explore(1000), states);
        calls += 2;
    }

    private static int word(CharSequence text, int at) {
        return text.charAt(at) << 24 | text.charAt(at + 1) << 16 | text.charAt(at + 2) << 8 | text.charAt(at + 3);
    }

    private static void showAll(ChanceWorks x) {
        for (int kind = 0; kind <= 10; kind++) {
            x.show(kind, 0);
            calls++;
        }
    }

    private static void measure(String what, int objects, int rounds) {
        long before = bytes();
        for (int n = 0; n < objects; n++) {
            ChanceWorks x = new ChanceWorks();
            for (int round = 0; round < rounds; round++) {
                use(x, DEAR[(n + round) % DEAR.length]);
            }
        }
        report(what, bytes() - before, objects == 1 ? 4000000 : 4L * 7000000);
    }

    private static void use(ChanceWorks x, String text) {
        Check.program(x, text);
        x.explore(1000);
        x.solve();
        x.show(5, 0);
        x.show(9, 0);
        if (x.count(0) > 1) {
            x.independent(0, 1);
            x.given(1, 0, 0);
        }
        x.best();
        x.play(5, 2000);
        x.show(12, 0);
    }

    private static long bytes() {
        return ((com.sun.management.ThreadMXBean) ManagementFactory.getThreadMXBean()).getCurrentThreadAllocatedBytes();
    }

    private static void report(String what, long made, long most) {
        if (Boolean.getBoolean("tell")) {
            System.out.println(what + ": " + made + " bytes of " + most);
        }
        Check.due(what + " made " + made + " bytes, more than " + most, made > most ? 1 : 0, 0);
    }
}
