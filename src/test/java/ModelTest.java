import java.util.Random;

/** All promises: random programs and calls, each answer beside that of a second house, made as plainly as can be. */
public final class ModelTest {
    /** States that the plain house solves in a short time. */
    private static final int FEW = 90;

    private final Random random;
    private final ChanceWorks x = new ChanceWorks();
    private final PlainHouse plain = new PlainHouse();
    private final long seed;
    private String text = "";
    private int calls;
    private boolean same = true;

    private ModelTest(long seed) {
        this.seed = seed;
        random = new Random(seed);
    }

    /** With two numbers: the first seed, and how many. */
    public static void main(String[] args) {
        long from = args.length > 1 ? Long.parseLong(args[0]) : 0;
        long many = args.length > 1 ? Long.parseLong(args[1]) : 2500;
        for (long seed = from; seed < from + many; seed++) {
            new ModelTest(seed).run();
        }
        Check.end();
    }

    private void run() {
        for (int n = 0; n < 3 && same; n++) {
            give(RandomText.next(random));
            if (x.count(3) == 0 && random.nextInt(4) > 0) {
                continue;
            }
            compare("explore", 0, 0, 0);
            for (int k = 0; k < 60 && same && calls < 480; k++) {
                anyCall();
            }
        }
    }

    private void give(String program) {
        if (calls + program.length() / 20 > 400) {
            return;
        }
        text = program;
        for (int from = 0; from < text.length() && same; from += 20) {
            int[] w = new int[5];
            for (int i = 0; i < 20; i++) {
                w[i / 4] = w[i / 4] << 8 | (from + i < text.length() ? text.charAt(from + i) : 32);
            }
            due("feed", () -> x.feed(w[0], w[1], w[2], w[3], w[4]), () -> plain.feed(w[0], w[1], w[2], w[3], w[4]));
        }
        int over = x.count(11) - (20 - text.length() % 20) % 20;
        due("end", () -> end(over), () -> plainEnd(over));
        due("program", x::program, plain::program);
        due("fault", x::fault, plain::fault);
        for (int what = 0; what < 4; what++) {
            compare("count", what, 0, 0);
        }
    }

    private long end(int n) {
        x.end(n);
        return 0;
    }

    private long plainEnd(int n) {
        plain.end(n);
        return 0;
    }

    private void due(String what, Check.Call one, Check.Call two) {
        calls++;
        String got = Check.of(one);
        String want = Check.of(two);
        if (!got.equals(want) && same) {
            same = false;
            Check.due("seed " + seed + ", " + what + " of\n" + text + "\n", got, want);
        }
    }

    private int below(int many) {
        return random.nextInt(40) == 0 ? random.nextInt(2) * 1001 - 1 : random.nextInt(Math.max(many, 1));
    }

    private void anyCall() {
        int states = x.count(4);
        int endings = x.count(5);
        int k = below(states + (random.nextInt(8) == 0 ? 1 : 0));
        int sort = random.nextInt(40);
        if (sort < 3) {
            compare("count", random.nextInt(14) - 1, 0, 0);
        } else if (sort < 6) {
            compare("state", k, random.nextInt(6) + (random.nextInt(20) == 0 ? 1 : 0), 0);
        } else if (sort < 9) {
            compare("value", k, random.nextInt(4) - 1, random.nextInt(5) - (random.nextInt(30) == 0 ? 1 : 0));
        } else if (sort < 13) {
            compare("next", k, random.nextInt(random.nextBoolean() ? 1 : 4), random.nextInt(3));
        } else if (sort < 15) {
            compare("ending", below(endings + 1), random.nextInt(6) - 1, 0);
        } else if (sort < 17) {
            chooser();
        } else if (sort < 30) {
            solvedCall(states, endings);
        } else if (sort < 33) {
            compare("tell", random.nextInt(random.nextInt(5) == 0 ? 8 : 2) - (random.nextInt(20) == 0 ? 1 : 0), 0, 0);
        } else {
            playCall(sort);
        }
    }

    /** Something of a state that chooses, if there is one. */
    private void chooser() {
        int states = x.count(4);
        int from = states == 0 ? 0 : random.nextInt(states);
        int k = from;
        for (int n = 0; n < states && x.state(k, 3) == 0; n++) {
            k = (k + 1) % states;
        }
        compare("decided", k, 0, 0);
        compare("decide", k, random.nextInt(3), 0);
        compare("decided", k, 0, 0);
    }

    private void solvedCall(int states, int endings) {
        int sort = random.nextInt(11);
        if (sort == 0) {
            compare("explore", 0, 0, 0);
        } else if (sort == 1) {
            compare("best", 0, 0, 0);
        } else if (sort < 4 && states <= FEW) {
            compare("solve", 0, 0, 0);
            for (int n = 0; n < 4; n++) {
                showCall(states, endings);
            }
            compare("independent", random.nextInt(4), random.nextInt(4), 0);
            compare("given", random.nextInt(4), random.nextInt(4), random.nextInt(4));
        } else if (sort < 8) {
            showCall(states, endings);
        } else if (sort == 9) {
            compare("independent", random.nextInt(4), random.nextInt(4), 0);
        } else {
            compare("given", random.nextInt(4), random.nextInt(4), random.nextInt(4));
        }
    }

    private void showCall(int states, int endings) {
        int kind = random.nextInt(40) == 0 ? random.nextInt(2) * 14 - 1 : random.nextInt(13);
        int v = kind == 2 ? below(endings) : kind == 8 || kind == 11 ? below(states) : random.nextInt(9) - 2;
        compare("show", kind, v, 0);
        shown();
    }

    private void shown() {
        for (int part = 0; part < 2; part++) {
            compare("size", part, 0, 0);
            for (int i = 0; i <= x.size(part) && i < 9; i++) {
                compare("limb", part, i, 0);
            }
        }
    }

    private void playCall(int sort) {
        if (sort == 33) {
            compare("forget", 0, 0, 0);
        } else if (sort < 36) {
            compare("walk", most(), 0, 0);
        } else {
            long from = random.nextLong();
            int most = most();
            due("play(" + from + ", " + most + ")", () -> x.play(from, most), () -> plain.play(from, most));
        }
        for (int what = 0; what < 8; what++) {
            compare("played", what, 0, 0);
        }
        compare("show", 12, 0, 0);
        shown();
    }

    private int most() {
        return random.nextInt(20) == 0 ? random.nextInt(2) * 2002 - 1 : random.nextInt(random.nextBoolean() ? 10 : 300);
    }

    private void compare(String name, int a, int b, int c) {
        String what = name + "(" + a + ", " + b + ", " + c + ")";
        switch (name) {
            case "count": due(what, () -> x.count(a), () -> plain.count(a)); break;
            case "explore": explore(); break;
            case "state": due(what, () -> x.state(a, b), () -> plain.state(a, b)); break;
            case "value": due(what, () -> x.value(a, b, c), () -> plain.value(a, b, c)); break;
            case "next": due(what, () -> x.next(a, b, c), () -> plain.next(a, b, c)); break;
            case "ending": due(what, () -> x.ending(a, b), () -> plain.ending(a, b)); break;
            case "decide": due(what, () -> x.decide(a, b), () -> plain.decide(a, b)); break;
            case "decided": due(what, () -> x.decided(a), () -> plain.decided(a)); break;
            case "best": due(what, x::best, plain::best); break;
            case "solve": due(what, x::solve, plain::solve); break;
            case "show": due(what, () -> x.show(a, b), () -> plain.show(a, b)); break;
            case "size": due(what, () -> x.size(a), () -> plain.size(a)); break;
            case "limb": due(what, () -> x.limb(a, b), () -> plain.limb(a, b)); break;
            case "tell": due(what, () -> x.tell(a), () -> plain.tell(a)); break;
            case "forget": due(what, x::forget, plain::forget); break;
            case "walk": due(what, () -> x.walk(a), () -> plain.walk(a)); break;
            case "played": due(what, () -> x.played(a), () -> plain.played(a)); break;
            case "independent": due(what, () -> x.independent(a, b) ? 1 : 0, () -> plain.independent(a, b) ? 1 : 0); break;
            default: due(what, () -> x.given(a, b, c) ? 1 : 0, () -> plain.given(a, b, c) ? 1 : 0);
        }
    }

    private void explore() {
        int sort = random.nextInt(12);
        int most = sort == 0 ? random.nextInt(2) * 1001 : sort < 3 ? 1 + random.nextInt(20) : 300;
        due("explore(" + most + ")", () -> x.explore(most), () -> plain.explore(most));
    }
}
