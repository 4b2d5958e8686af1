import java.math.BigInteger;
import java.util.Arrays;

/** Whole numbers of many digits, where a digit of 31 or 32 bits comes, goes, is borrowed or is guessed too great. */
public final class DigitsTest {
    public static void main(String[] args) {
        firstStatementEnds();
        sumsThatBecomeShort();
        worthsThatBecomeShort();
        littleIsLost();
        manyDigitsOfEach();
        guessedTooGreat();
        firstDigitGuessedTooGreat();
        Check.end();
    }

    private static BigInteger number(long n) {
        return BigInteger.valueOf(n);
    }

    private static String low(BigInteger top, BigInteger bottom) {
        BigInteger common = top.gcd(bottom);
        return top.divide(common) + "/" + bottom.divide(common);
    }

    /** The beginning itself draws what the run ENDS with. */
    private static void firstStatementEnds() {
        ChanceWorks x = Check.solved("var v ; var w ; func main ( ) { v ~ { 4 : 1 , 5 : 2 , 6 : 4 } ; }");
        Check.due("the weight of the first", Check.show(x, 2, 0), "1/7");
        Check.due("the weight of the last", Check.show(x, 2, 2), "4/7");
        Check.due("the odds of 0", Check.show(x, 0, 0), "1/1");
        Check.due("KEPT", Check.show(x, 6, 0), "1/1");
        Check.due("LOST", Check.show(x, 5, 0), "0/1");
        Check.due("visits of all", Check.show(x, 9, 0), "1/1");
        Check.due("independent(0, 0)", x.independent(0, 0) ? 1 : 0, 0);
        Check.due("independent(0, 1)", x.independent(0, 1) ? 1 : 0, 1);
        Check.due("given(0, 0, 1)", x.given(0, 0, 1) ? 1 : 0, 0);
        Check.due("given(0, 0, 0)", x.given(0, 0, 0) ? 1 : 0, 1);
    }

    /** What is gained and lost again has two limbs on either side, and one or none in the end. */
    private static void sumsThatBecomeShort() {
        String much = "gain 2000000000 ; ".replace("2000000000", "999999999 + 999999999 + 2");
        String back = "gain 0 - 999999999 - 999999999 - 2 ; ";
        ChanceWorks x = Check.solved("var v ; func main ( ) { v ~ flip ( 1 , 2 ) ; " + much.repeat(3) + back.repeat(3) + "gain v ; }");
        Check.due("the GAIN, of six thousand millions less as many", Check.show(x, 7, 0), "1/3");
        Check.due("its sign", x.show(7, 0), 1);
        Check.due("its size", x.size(0), 1);
        ChanceWorks y = Check.solved("func main ( ) { " + much.repeat(3) + back.repeat(2) + "gain 0 - 999999999 - 999999999 - 1 ; }");
        Check.due("the GAIN of 1", Check.show(y, 7, 0), "1/1");
        Check.due("its size", y.size(0), 1);
        ChanceWorks z = Check.solved("func main ( ) { " + much.repeat(3) + back.repeat(3) + "}");
        Check.due("the sign of nothing", z.show(7, 0), 0);
        Check.due("the GAIN of nothing", Check.fraction(z, 0), "0/1");
        ChanceWorks w = Check.solved("func main ( ) { gain 7 ; gain - 3 ; }");
        Check.due("the sign of 7 less 3", w.show(7, 0), 1);
        Check.due("the GAIN of 7 less 3", Check.fraction(w, 1), "4/1");
        ChanceWorks u = Check.solved("func main ( ) { gain 3 ; gain - 7 ; }");
        Check.due("the sign of 3 less 7", u.show(7, 0), -1);
        Check.due("the GAIN of 3 less 7", Check.fraction(u, -1), "-4/1");
        ChanceWorks t = Check.solved("var v ; func main ( ) { v ~ pick ( 2 ) ; return v * 9 - 4 ; }");
        Check.due("the sign of the average of 5 and -4", t.show(10, 0), 1);
        Check.due("the average of 5 and -4", Check.fraction(t, 1), "1/2");
    }

    private static void worth(String gains, int sign, String want) {
        ChanceWorks x = Check.explored("func main ( ) { " + gains + " }");
        Check.due("best() of " + gains, x.best(), 0);
        Check.due("the sign of the worth of " + gains, x.show(11, 0), sign);
        Check.due("the worth of " + gains, Check.fraction(x, sign), want);
        Check.due("its size", x.size(0), sign == 0 ? 0 : 1);
    }

    private static void worthsThatBecomeShort() {
        worth("gain 5 ; gain - 5 ;", 0, "0/1");
        worth("gain - 5 ; gain 5 ;", 0, "0/1");
        worth("gain 5 ; gain - 4 ;", 1, "1/1");
        worth("gain - 5 ; gain 4 ;", -1, "-1/1");
        worth("gain 4 ; gain - 5 ;", -1, "-1/1");
        String much = "gain 999999999 + 999999999 ; ";
        String back = "gain 0 - 999999999 - 999999999 ; ";
        worth(back.repeat(3) + much.repeat(3), 0, "0/1");
        worth("gain 1 ; " + back.repeat(3) + much.repeat(3), 1, "1/1");
        worth("gain 1 + 999999999 + 999999999 ; " + back.repeat(3) + much.repeat(2), 1, "1/1");
        worth(much + much + "gain 1 ; " + back.repeat(2), 1, "1/1");
        worth(back + back + "gain - 1 ; " + much.repeat(2), -1, "-1/1");
    }

    /** LOST is 1 less all that weighs: of many digits the last alone is left. */
    private static void littleIsLost() {
        ChanceWorks x = Check.solved("var v ; func main ( ) { " + "v ~ flip ( 1 , 999999 ) ; if v == 0 { return 0 ; } ".repeat(6) + "while 1 { } }");
        Check.due("LOST", Check.show(x, 5, 0), "1/" + BigInteger.TEN.pow(36));
        Check.due("its size above the line", x.size(0), 1);
        Check.due("its size below the line", x.size(1), 4);
        Check.due("KEPT", Check.show(x, 6, 0), BigInteger.TEN.pow(36).subtract(BigInteger.ONE) + "/" + BigInteger.TEN.pow(36));
        ChanceWorks y = Check.solved("var v ; func main ( ) { " + "v ~ flip ( 1 , 999999 ) ; if v == 0 { while 1 { } } ".repeat(6) + "}");
        Check.due("LOST of nearly all", Check.show(y, 5, 0), BigInteger.TEN.pow(36).subtract(BigInteger.ONE) + "/" + BigInteger.TEN.pow(36));
    }

    /** 2 to the power of so many bits, above and below the line, from one limb to the next. */
    private static void manyDigitsOfEach() {
        for (int bits : new int[] {30, 31, 32, 33, 61, 62, 63, 64, 65, 92, 93, 94, 95, 96, 97, 124}) {
            ChanceWorks x = Check.solved("var n ; var v ; func main ( ) { while n < " + bits + " { v ~ flip ( 1 , 1 ) ; observe v ; n = n + 1 ; } }");
            Check.due("visits of the last of " + bits, Check.show(x, 8, x.count(4) - 1), "1/" + BigInteger.ONE.shiftLeft(bits));
            Check.due("its size", x.size(1), bits / 32 + 1);
            Check.due("its highest limb", x.limb(1, bits / 32), 1 << bits % 32);
        }
    }

    private static BigInteger product(long[] totals) {
        BigInteger all = BigInteger.ONE;
        for (long total : totals) {
            all = all.multiply(number(total));
        }
        return all;
    }

    private static String chain(long[] totals) {
        StringBuilder all = new StringBuilder();
        for (long total : totals) {
            all.append("v ~ flip ( 1 , ").append(total - 1).append(" ) ; if v == 0 { return 0 ; } ");
        }
        return all.toString();
    }

    /** Two ways that meet, of the odds 1 / 2 B and 1 / 2 M: what comes to their meeting must be the sum. */
    private static void meet(long[] longer, long[] shorter) {
        BigInteger one = product(longer);
        BigInteger two = product(shorter);
        // The second way waits, so that the first one's number is taken first.
        String text = "var v ; var c ; func main ( ) { c ~ flip ( 1 , 1 ) ; if c { " + chain(longer) + " } else { " + chain(shorter)
                + "gain 0 ; ".repeat(12) + "} c = 5 ; return 1 ; }";
        ChanceWorks x = Check.solved(text);
        int meeting = 0;
        while (x.state(meeting, 0) != x.count(3) - 1) {
            meeting++;
        }
        String want = low(one.add(two), one.multiply(two).shiftLeft(1));
        Check.due("visits where two ways meet", Check.show(x, 8, meeting), want);
        Check.due("the odds of 1", Check.show(x, 0, 1), want);
    }

    /** B is a little below a multiple of M: a digit that is guessed from the highest ones is one too great. */
    private static void guessedTooGreat() {
        long[][][] ways = {
            {{185599, 558353, 14867, 866141, 914162, 977301}, {968773, 932885, 960666, 914162, 977301}},
            {{905461, 270587, 85517, 30971, 959419, 996567}, {917534, 930725, 948655, 959419, 996567}},
            {{774199, 468721, 20983, 3557, 917398, 995110}, {949365, 968461, 981933, 917398, 995110}},
            {{82457, 60107, 31277, 16097, 569, 913574, 916630}, {964411, 978120, 900211, 913574, 916630}},
        };
        for (long[][] way : ways) {
            BigInteger two = product(way[1]);
            Check.due("B is just below a multiple of M", two.subtract(product(way[0]).mod(two)).bitLength() < 42 ? 1 : 0, 1);
            meet(way[0], way[1]);
        }
    }

    /** M has a factor that is 1 below a multiple of 2 to the power of 31: the first digit of two is guessed too great. */
    private static void firstDigitGuessedTooGreat() {
        long[][][] ways = {
            {{118409, 489619, 92027, 743}, {946644, 980043}, {976073, 999563}},
            {{945233, 16977, 585947, 397}, {924940, 942736}, {977925, 913410}},
            {{651845, 657969, 8353, 1283}, {984211, 991339}, {911613, 975455}},
        };
        for (long[][] way : ways) {
            Check.due("the lowest 31 bits are full", product(way[0]).intValue() & 0x7FFFFFFF, 0x7FFFFFFF);
            meet(joined(way[1], way[2]), joined(way[0], way[2]));
            meet(joined(way[0], way[2]), joined(way[1], way[2]));
        }
    }

    private static long[] joined(long[] first, long[] second) {
        long[] all = Arrays.copyOf(first, first.length + second.length);
        System.arraycopy(second, 0, all, first.length, second.length);
        return all;
    }
}
