/** What the tests share: texts for the tape, answers that are due, and exceptions told by name. */
final class Check {
    /** A call whose answer, or exception, is looked at. */
    interface Call {
        long run();
    }

    private static int wrong = 0;

    private Check() {
    }

    static void due(String what, long got, long want) {
        if (got != want) {
            wrong++;
            System.out.println(what + " answered " + got + ", due is " + want);
        }
    }

    static void due(String what, String got, String want) {
        if (!got.equals(want)) {
            wrong++;
            System.out.println(what + " answered " + got + ", due is " + want);
        }
    }

    /** The simple name of what a call throws, or what it answers. */
    static String of(Call call) {
        try {
            return Long.toString(call.run());
        } catch (RuntimeException e) {
            return e.getClass().getSimpleName();
        }
    }

    /** Feeds a text, so that the tape ends with its last byte. */
    static void feed(ChanceWorks x, String text) {
        int before = x.count(11);
        for (int from = 0; from < text.length(); from += 20) {
            int[] words = new int[5];
            for (int i = 0; i < 20; i++) {
                int b = from + i < text.length() ? text.charAt(from + i) & 255 : 32;
                words[i / 4] = words[i / 4] << 8 | b;
            }
            x.feed(words[0], words[1], words[2], words[3], words[4]);
        }
        x.end(before + text.length());
    }

    static int program(ChanceWorks x, String text) {
        feed(x, text);
        return x.program();
    }

    /** A new house with this program. */
    static ChanceWorks house(String text) {
        ChanceWorks x = new ChanceWorks();
        if (program(x, text) < 0) {
            wrong++;
            System.out.println("a fault " + x.fault() + " in " + text);
        }
        return x;
    }

    /** A new house with this program, all of it explored. */
    static ChanceWorks explored(String text) {
        ChanceWorks x = house(text);
        x.explore(1000);
        return x;
    }

    /** A new house with this program, solved. */
    static ChanceWorks solved(String text) {
        ChanceWorks x = explored(text);
        due("solve() of " + text, x.solve(), 0);
        return x;
    }

    /** What is shown, as a fraction of decimal numbers; its sign must be one of three, and 0 for nothing alone. */
    static String fraction(ChanceWorks x, int sign) {
        String top = part(x, 0).toString();
        due("the size of the sign " + sign, Math.abs((long) sign), top.equals("0") ? 0 : 1);
        return (sign < 0 ? "-" : "") + top + "/" + part(x, 1);
    }

    static java.math.BigInteger part(ChanceWorks x, int part) {
        java.math.BigInteger all = java.math.BigInteger.ZERO;
        for (int i = x.size(part) - 1; i >= 0; i--) {
            all = all.shiftLeft(32).add(java.math.BigInteger.valueOf(x.limb(part, i) & 0xFFFFFFFFL));
        }
        return all;
    }

    static String show(ChanceWorks x, int kind, int v) {
        return fraction(x, x.show(kind, v));
    }

    static void end() {
        System.out.println(wrong == 0 ? "all answers are as due" : wrong + " answers are not as due");
        if (wrong != 0) {
            System.exit(1);
        }
    }
}
