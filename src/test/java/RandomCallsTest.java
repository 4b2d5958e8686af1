import java.util.Random;

/** Calls of all kinds with arguments of all kinds: each throws what its comment names, and nothing else. */
public final class RandomCallsTest {
    private static final String[] TEXTS = {
        "var s; var t; func main() { while s < 4 { s ~ { s + 1 : 3, t : 1 }; t = choose(2); gain s - t; } return s; }",
        "var a; arr b[3]; func f(n, m) { local k = 0; b[n % 3] ~ flip(n + 1, m); if n { k = f(n - 1, m + 1); } return k + a; } func main() { a = f(2, 1); observe a < 3; return b[a]; }",
        "func main() { }",
        "var v = - 3; func main() { v = choose(3); if v == 2 { while 1 { } } v ~ pick(v + 1); return 6 / v; }",
        "var v; func main() { v ~ pick(64); v ~ pick(64); v ~ pick(64); }",
        "var i; var v; func main() { while i < 14 { v ~ flip(999983 - i, 999979); i = i + 1; } return v; }",
        "var v; func main() { while 1 { v ~ { v:999983, v+1:1000000 }; if v == 9 { return v; } } }",
        "arr a[8]; arr b[8]; arr c[8]; var x; func g(p, q, r, s) { local t = p; local u = 1; local v = 2; local w = 3; x ~ pick(2); g(x, t, u, v); } func main() { g(1, 2, 3, 4); }",
        "var x = 1; func main() { x = x +; }",
        "var x; @",
    };
    private static final String[] PIECES = {
        "var", "arr", "func", "local", "if", "else", "while", "return", "observe", "gain", "pick", "flip", "choose",
        "main", "x", "y", "(", ")", "{", "}", "[", "]", ";", ",", ":", "~", "=", "==", "<", "-", "!", "1", "9", "#\n", "@",
    };
    private static final int[] ODD = {-2, -1, 0, 1, 2, 3, 7, 11, 12, 13, 64, 200, 1000, 1001, 2000, 2001, 65536, Integer.MAX_VALUE, Integer.MIN_VALUE};

    private final Random random;
    private ChanceWorks x = new ChanceWorks();

    private RandomCallsTest(long seed) {
        random = new Random(seed);
    }

    public static void main(String[] args) {
        for (int seed = 0; seed < 60; seed++) {
            RandomCallsTest test = new RandomCallsTest(seed);
            for (int n = 0; n < 512; n++) {
                test.call();
            }
        }
        Check.end();
    }

    private int number() {
        return random.nextInt(4) == 0 ? ODD[random.nextInt(ODD.length)] : random.nextInt(random.nextBoolean() ? 4 : 40);
    }

    private void text() {
        String text = TEXTS[random.nextInt(TEXTS.length)];
        if (random.nextInt(4) == 0) {
            StringBuilder all = new StringBuilder(text.substring(0, random.nextInt(text.length() + 1)));
            for (int n = random.nextInt(12); n > 0; n--) {
                all.append(' ').append(PIECES[random.nextInt(PIECES.length)]);
            }
            text = all.toString();
        }
        Check.feed(x, text);
    }

    private void call() {
        int which = random.nextInt(30);
        int a = number();
        int b = number();
        int c = number();
        String allowed;
        Check.Call call;
        switch (which) {
            case 0: call = () -> x.feed(a, b, c, a, b); allowed = "UnsupportedOperationException"; break;
            case 1: call = () -> { x.end(a); return 0; }; allowed = "IllegalArgumentException"; break;
            case 2: case 3: call = () -> { x.end(0); text(); return x.program(); }; allowed = ""; break;
            case 4: call = x::program; allowed = ""; break;
            case 5: call = x::fault; allowed = ""; break;
            case 6: call = () -> x.count(a); allowed = "IndexOutOfBoundsException"; break;
            case 7: case 8: call = () -> x.explore(a % 3 == 0 ? 1000 : a); allowed = "IllegalStateException IllegalArgumentException"; break;
            case 9: call = () -> x.state(a, b); allowed = "IndexOutOfBoundsException"; break;
            case 10: call = () -> x.value(a, b, c); allowed = "IndexOutOfBoundsException"; break;
            case 11: call = () -> x.next(a, b, c); allowed = "IndexOutOfBoundsException"; break;
            case 12: call = () -> x.ending(a, b); allowed = "IndexOutOfBoundsException"; break;
            case 13: case 14: call = () -> x.decide(a, b); allowed = "IndexOutOfBoundsException"; break;
            case 15: call = () -> x.decided(a); allowed = "IndexOutOfBoundsException"; break;
            case 16: call = x::best; allowed = "IllegalStateException"; break;
            case 17: case 18: call = x::solve; allowed = "IllegalStateException"; break;
            case 19: case 20: case 21: call = () -> x.show(a, b); allowed = "IllegalArgumentException IllegalStateException IndexOutOfBoundsException"; break;
            case 22: call = () -> x.size(a); allowed = "IndexOutOfBoundsException"; break;
            case 23: call = () -> x.limb(a, b); allowed = "IndexOutOfBoundsException"; break;
            case 24: call = () -> x.tell(a); allowed = "UnsupportedOperationException"; break;
            case 25: call = () -> random.nextInt(9) == 0 ? x.forget() : x.play(a * 31L + b, c); allowed = "IllegalStateException IllegalArgumentException"; break;
            case 26: call = () -> x.walk(a); allowed = "IllegalStateException IllegalArgumentException"; break;
            case 27: call = () -> x.played(a); allowed = "IndexOutOfBoundsException"; break;
            case 28: call = () -> x.independent(a, b) ? 1 : 0; allowed = "IllegalStateException IndexOutOfBoundsException"; break;
            default: call = () -> x.given(a, b, c) ? 1 : 0; allowed = "IllegalStateException IndexOutOfBoundsException"; break;
        }
        String got = Check.of(call);
        if (got.endsWith("Exception") && !(" " + allowed + " ").contains(" " + got + " ")) {
            Check.due("call of sort " + which + " with " + a + ", " + b + ", " + c, got, "an answer, or one of: " + allowed);
        }
        if (which == 17 && got.equals("0") && x.count(4) < 40) {
            compare();
        }
    }

    /** What is solved must be what comes of whole matrices of fractions. */
    private void compare() {
        Fractions all = new Fractions(x);
        for (int kind : new int[] {2, 3, 4, 5, 6, 8, 9}) {
            int v = kind == 3 ? random.nextInt(6) : random.nextInt(3);
            if (kind == 2 && v >= x.count(5) || kind == 8 && v >= x.count(4) || x.count(4) == 0) {
                continue;
            }
            Check.due("show(" + kind + ", " + v + ")", Check.show(x, kind, v), all.show(kind, v));
        }
    }
}
