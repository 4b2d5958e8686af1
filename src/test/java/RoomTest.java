import java.lang.management.ManagementFactory;

/**
 * All calls of one run live in one room of 7.3 million parts. A dear program takes more than 21 calls (to
 * feed it, and those below), so 512 calls are for 24 of them at most.
 */
public final class RoomTest {
    private static final String[] DEAR = {
        "var s; var i; func main() { while i < 5 { s ~ pick(64); i = i + 1; } return s % 3; }",
        "var s; var t; func main() { s ~ pick(15); t ~ pick(64); }",
        "var s; var c; func main() { c ~ pick(25); while 1 { s ~ { s + 1 : 97 - s, (s * 3) % 10 : 55 + c, 100 : 1 + c }; if s >= 10 { return s; } } }",
        "var s; var t; var u; func main() { s ~ pick(60); t ~ flip(999983 - s * 11, 1000 + s * s); u ~ flip(5 + s * 17 + t, 900000); t ~ flip(5 + s * 17 + t * u, 900000 - s); }",
        "arr a[8]; arr b[8]; arr c[8]; func f(p, q, r, s) { local t = 0; local u = 0; t ~ pick(2); if p > 0 { u = f(p - 1, q + t, r, s); } return u + t; } func main() { local x = 0; x = f(5, 0, 0, 0); return x; }",
    };

    public static void main(String[] args) {
        measure("one object", 1, 24);
        measure("many objects", 24, 1);
        long before = bytes();
        for (int n = 0; n < 512; n++) {
            new ChanceWorks();
        }
        report("512 new objects", bytes() - before);
        Check.end();
    }

    private static void measure(String what, int objects, int rounds) {
        long before = bytes();
        for (int n = 0; n < objects; n++) {
            ChanceWorks x = new ChanceWorks();
            for (int round = 0; round < rounds; round++) {
                use(x, DEAR[(n + round) % DEAR.length]);
            }
        }
        report(what, bytes() - before);
    }

    private static void use(ChanceWorks x, String text) {
        Check.program(x, text);
        x.explore(1000);
        x.solve();
        x.show(5, 0);
        x.show(9, 0);
        x.independent(0, 1);
        x.given(1, 0, 0);
        x.best();
        x.play(5, 2000);
        x.show(12, 0);
    }

    private static long bytes() {
        return ((com.sun.management.ThreadMXBean) ManagementFactory.getThreadMXBean()).getCurrentThreadAllocatedBytes();
    }

    /** Four bytes and more are one part. */
    private static void report(String what, long made) {
        Check.due(what + " made " + made + " bytes, too many", made > 4L * 7000000 ? 1 : 0, 0);
    }
}
