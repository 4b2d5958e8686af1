/** Promises 1 to 3: a new object, feed, end. */
public final class TapeTest {
    public static void main(String[] args) {
        newObject();
        feed();
        end();
        Check.end();
    }

    private static void newObject() {
        ChanceWorks x = new ChanceWorks();
        for (int what = 0; what <= 11; what++) {
            Check.due("count(" + what + ") of a new object", x.count(what), 0);
        }
        Check.due("fault()", x.fault(), 0);
        Check.due("size(0)", x.size(0), 0);
        Check.due("size(1)", x.size(1), 1);
        Check.due("limb(1, 0)", x.limb(1, 0), 1);
        Check.due("limb(0, 0)", Check.of(() -> x.limb(0, 0)), "IndexOutOfBoundsException");
        for (int what = 0; what < 5; what++) {
            Check.due("played(" + what + ")", x.played(what), 0);
        }
        Check.due("played(5)", Check.of(() -> x.played(5)), "IndexOutOfBoundsException");
        Check.due("explore(1)", Check.of(() -> x.explore(1)), "IllegalStateException");
        Check.due("solve()", Check.of(x::solve), "IllegalStateException");
        Check.due("best()", Check.of(x::best), "IllegalStateException");
        Check.due("play(1, 1)", Check.of(() -> x.play(1, 1)), "IllegalStateException");
        Check.due("walk(1)", Check.of(() -> x.walk(1)), "IllegalStateException");
        for (int kind = 0; kind <= 12; kind++) {
            int k = kind;
            Check.due("show(" + kind + ", 0)", Check.of(() -> x.show(k, 0)), "IllegalStateException");
        }
        Check.due("state(0, 0)", Check.of(() -> x.state(0, 0)), "IndexOutOfBoundsException");
        Check.due("ending(0, 0)", Check.of(() -> x.ending(0, 0)), "IndexOutOfBoundsException");
        Check.due("forget()", x.forget(), 0);
        Check.due("program() of an empty tape", x.program(), -1);
        Check.due("its fault", x.fault(), 17);
    }

    private static void feed() {
        ChanceWorks x = new ChanceWorks();
        // "func main() { } # .." : the highest byte of each number comes first.
        Check.due("feed", x.feed(0x66756E63, 0x206D6169, 0x6E282920, 0x7B207D20, 0x23FFFFFF), 20);
        Check.due("count(11)", x.count(11), 20);
        Check.due("feed again", x.feed(-1, 0, 1, 2, 3), 40);
        Check.due("program()", x.program(), 0);
        Check.due("count(11) then", x.count(11), 0);
        for (int n = 1; n <= 3276; n++) {
            x.feed(0x20202020, 0x20202020, 0x20202020, 0x20202020, 0x20202020);
        }
        Check.due("count(11) when nearly full", x.count(11), 65520);
        Check.due("feed when full", Check.of(() -> x.feed(0, 0, 0, 0, 0)), "UnsupportedOperationException");
        Check.due("count(11) after it", x.count(11), 65520);
        x.end(65516);
        Check.due("feed of the last bytes", x.feed(0, 0, 0, 0, 0), 65536);
        Check.due("feed of one more", Check.of(() -> x.feed(0, 0, 0, 0, 0)), "UnsupportedOperationException");
        Check.due("program()", x.program(), -1 - 65516);
        Check.due("its fault", x.fault(), 1);
    }

    private static void end() {
        ChanceWorks x = new ChanceWorks();
        Check.due("end(-1)", Check.of(() -> tryEnd(x, -1)), "IllegalArgumentException");
        Check.due("end(1)", Check.of(() -> tryEnd(x, 1)), "IllegalArgumentException");
        Check.due("end(0)", Check.of(() -> tryEnd(x, 0)), "0");
        x.feed(0x76617220, 0x783B2076, 0x61722079, 0x3B20207D, 0);
        Check.due("end(21)", Check.of(() -> tryEnd(x, 21)), "IllegalArgumentException");
        Check.due("end of the least number", Check.of(() -> tryEnd(x, Integer.MIN_VALUE)), "IllegalArgumentException");
        Check.due("end(20)", Check.of(() -> tryEnd(x, 20)), "20");
        Check.due("end(7)", Check.of(() -> tryEnd(x, 7)), "7");
        Check.due("end(8)", Check.of(() -> tryEnd(x, 8)), "IllegalArgumentException");
        Check.due("program() of what is kept", x.program(), -8);
        Check.due("its fault", x.fault(), 17);
    }

    private static long tryEnd(ChanceWorks x, int n) {
        x.end(n);
        return x.count(11);
    }
}
