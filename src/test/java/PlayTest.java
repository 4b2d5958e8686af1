import java.math.BigInteger;

/** Promises 19 to 23: tell, forget, play, walk, played; and the odds of plays (kind 12 of show). */
public final class PlayTest {
    public static void main(String[] args) {
        tell();
        seed();
        walk();
        failures();
        choices();
        odds();
        long_();
        wrong();
        Check.end();
    }

    private static void tell() {
        ChanceWorks x = new ChanceWorks();
        Check.due("forget() of none", x.forget(), 0);
        for (int n = 1; n <= 200; n++) {
            Check.due("tell(" + -n + ")", x.tell(-n), n);
        }
        Check.due("tell of one more", Check.of(() -> x.tell(0)), "UnsupportedOperationException");
        Check.due("forget()", x.forget(), 200);
        Check.due("tell(5)", x.tell(5), 1);
        Check.due("program() keeps what is told", Check.program(x, "var v; func main() { v ~ pick(6); return v; }"), 2);
        Check.due("walk(2)", x.walk(2), 1);
        Check.due("played(1)", x.played(1), 5);
        Check.due("forget()", x.forget(), 1);
    }

    private static long step(long x) {
        return x * 6364136223846793005L + 1442695040888963407L;
    }

    private static void seed() {
        ChanceWorks x = Check.house("var a; var b; arr c[2]; func main() { a ~ pick(10); b ~ flip(3, 4); c[1] ~ { 7 : 0, 8 : 5, 9 : 0, 8 : 1, 6 : 2 }; gain a; gain 0 - 999999999; return b; }");
        for (long seed : new long[] {0, 1, -1, 7, 123456789123L, Long.MIN_VALUE, Long.MAX_VALUE}) {
            long one = step(seed);
            long two = step(one);
            long three = step(two);
            long a = (one >>> 33) % 10;
            long b = (two >>> 33) % 7 < 3 ? 1 : 0;
            long c = (three >>> 33) % 8;
            Check.due("play(" + seed + ", 6)", x.play(seed, 6), 1);
            long[] want = {1, b, 6, 3, a - 999999999, a, b, 0, c < 6 ? 8 : 6};
            for (int what = 0; what < want.length; what++) {
                Check.due("played(" + what + ") by " + seed, x.played(what), want[what]);
            }
            String odds = Check.show(x, 12, 0);
            long weight = (b == 1 ? 3 : 4) * (c < 5 ? 5 : c < 6 ? 1 : 2);
            long common = BigInteger.valueOf(weight).gcd(BigInteger.valueOf(560)).longValue();
            Check.due("odds by " + seed, odds, weight / common + "/" + 560 / common);
        }
        Check.due("play(7, 5)", x.play(7, 5), 0);
        Check.due("how it stops", x.played(0), 0);
        Check.due("its number", x.played(1), 0);
        Check.due("its statements", x.played(2), 5);
        Check.due("its draws", x.played(3), 3);
        Check.due("play(7, 0)", x.play(7, 0), 0);
        Check.due("no draws", x.played(3), 0);
        Check.due("odds of none", Check.show(x, 12, 5), "1/1");
    }

    private static void walk() {
        ChanceWorks x = Check.house("var a; var b; func main() { a ~ flip(3, 4); b ~ { 7 : 0, 8 : 5 }; b = b + a; a ~ pick(3); return a; }");
        Check.due("walk() of no draws", x.walk(100), 0);
        Check.due("statements before the first draw", x.played(2), 0);
        x.tell(0);
        Check.due("walk() of one draw", x.walk(100), 0);
        Check.due("flip has 1 first", x.played(5), 1);
        Check.due("statements before the second draw", x.played(2), 1);
        Check.due("odds of one draw", Check.show(x, 12, 0), "3/7");
        x.tell(0);
        Check.due("walk() of two draws", x.walk(100), 0);
        Check.due("a draw of weight 0", x.played(6), 8);
        Check.due("statements", x.played(2), 3);
        Check.due("draws", x.played(3), 2);
        Check.due("odds of a weight 0", Check.show(x, 12, 0), "0/1");
        Check.due("walk(2)", x.walk(2), 0);
        Check.due("draws of walk(2)", x.played(3), 2);
        x.tell(2);
        x.tell(1);
        Check.due("walk() of all", x.walk(100), 1);
        Check.due("its number", x.played(1), 2);
        Check.due("its statements", x.played(2), 5);
        Check.due("its draws", x.played(3), 3);
        Check.due("the same again", x.walk(100), 1);
        x.forget();
        x.tell(1);
        x.tell(1);
        x.tell(3);
        Check.due("a draw that there is not", x.walk(100), 2);
        Check.due("its failure", x.played(1), 6);
        Check.due("its statements", x.played(2), 4);
        Check.due("its draws", x.played(3), 2);
        Check.due("its odds", Check.show(x, 12, 0), "4/7");
        Check.due("its var", x.played(5), 0);
        x.forget();
        x.tell(-1);
        Check.due("a draw below 0", x.walk(100), 2);
        Check.due("its failure", x.played(1), 6);
    }

    private static void failures() {
        ChanceWorks x = Check.house("var a; func main() { a ~ pick(2); gain 4; a ~ pick(a * 0); }");
        x.tell(1);
        Check.due("a draw that fails wants none", x.walk(100), 2);
        Check.due("its failure", x.played(1), 3);
        Check.due("its statements", x.played(2), 3);
        Check.due("its draws", x.played(3), 1);
        Check.due("its gain", x.played(4), 4);
        Check.due("its odds", Check.show(x, 12, 0), "1/2");
        Check.due("its var", x.played(5), 1);
    }

    private static void choices() {
        String text = "var a; var b; func main() { a = choose(3); b = choose(2); return a * 10 + b; }";
        ChanceWorks x = Check.house(text);
        Check.due("without a plan", x.play(0, 10), 1);
        Check.due("its number", x.played(1), 0);
        Check.due("no draws", x.played(3), 0);
        x.explore(1000);
        x.decide(0, 2);
        int third = x.next(0, 2, 1);
        x.decide(third, 1);
        x.play(0, 10);
        Check.due("by the plan", x.played(1), 21);
        x.walk(10);
        Check.due("a walk by the plan", x.played(1), 21);
        x.explore(1);
        x.play(0, 10);
        Check.due("when the exploring is spent", x.played(1), 0);
    }

    private static void odds() {
        ChanceWorks x = Check.house("var a; func main() { while 1 { a ~ flip(999983, 999979); } }");
        for (int n = 0; n < 200; n++) {
            x.tell(n % 3 == 0 ? 0 : 1);
        }
        Check.due("walk of 200 draws", x.walk(2000), 0);
        Check.due("its draws", x.played(3), 200);
        BigInteger top = BigInteger.valueOf(999983).pow(67).multiply(BigInteger.valueOf(999979).pow(133));
        BigInteger bottom = BigInteger.valueOf(1999962).pow(200);
        Check.due("its odds", Check.show(x, 12, 0), top + "/" + bottom);
    }

    private static void long_() {
        ChanceWorks x = Check.house("var a; func f() { while 1 { a ~ { 1 : 999983, 2 : 1000000, 3 : 999979, 4 : 6 }; } } func main() { f(); }");
        Check.due("play of 2000", x.play(99, 2000), 0);
        Check.due("its statements", x.played(2), 2000);
        Check.due("its draws", x.played(3), 999);
        long seed = 99;
        BigInteger top = BigInteger.ONE;
        long[] weights = {999983, 1000000, 999979, 6};
        for (int n = 0; n < 999; n++) {
            seed = step(seed);
            long rest = (seed >>> 33) % 2999968;
            int way = 0;
            for (long sum = weights[0]; sum <= rest; sum += weights[way]) {
                way++;
            }
            top = top.multiply(BigInteger.valueOf(weights[way]));
        }
        BigInteger bottom = BigInteger.valueOf(2999968).pow(999);
        BigInteger common = top.gcd(bottom);
        Check.due("its odds", Check.show(x, 12, 0), top.divide(common) + "/" + bottom.divide(common));
    }

    private static void wrong() {
        ChanceWorks x = Check.house("var a = 3; arr b[2]; func main() { a = 4; }");
        for (int what = 0; what < 8; what++) {
            Check.due("played(" + what + ") without a play", x.played(what), 0);
        }
        for (int most : new int[] {-1, 2001, Integer.MIN_VALUE, Integer.MAX_VALUE}) {
            Check.due("play(0, " + most + ")", Check.of(() -> x.play(0, most)), "IllegalArgumentException");
            Check.due("walk(" + most + ")", Check.of(() -> x.walk(most)), "IllegalArgumentException");
        }
        Check.due("show(12, 0)", Check.of(() -> x.show(12, 0)), "IllegalStateException");
        Check.due("play(0, 2000)", x.play(0, 2000), 1);
        for (int what : new int[] {-1, 8, Integer.MIN_VALUE, Integer.MAX_VALUE}) {
            Check.due("played(" + what + ")", Check.of(() -> x.played(what)), "IndexOutOfBoundsException");
        }
        Check.due("played(5)", x.played(5), 4);
        Check.due("played(7)", x.played(7), 0);
        ChanceWorks y = new ChanceWorks();
        Check.due("play without a program", Check.of(() -> y.play(0, -1)), "IllegalStateException");
        Check.due("walk without a program", Check.of(() -> y.walk(-1)), "IllegalStateException");
    }
}
