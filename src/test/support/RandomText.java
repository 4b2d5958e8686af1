import java.util.ArrayList;
import java.util.List;
import java.util.Random;

/** Programs at random: small ones as a rule, a few with as much as there may be, or one more, some with a fault. */
final class RandomText {
    private static final String[] ANY = {
        "var", "arr", "func", "local", "if", "else", "while", "return", "observe", "gain", "pick", "flip", "choose",
        "main", "v0", "v1", "a0", "f0", "o0", "z", "(", ")", "{", "}", "[", "]", ";", ",", ":", "~", "=", "==", "!=",
        "<", "<=", ">", ">=", "+", "-", "*", "/", "%", "&", "|", "!", "0", "1", "9", "123456789", "1234567890",
        "twelve_bytes", "thirteen_byte", "@", "\u00ff", "$", "#", "\u0000",
    };
    private static final String[] OPERATORS = {
        "|", "&", "==", "!=", "<", "<=", ">", ">=", "+", "-", "*", "/", "%", "+", "-", "%", "<", "==",
    };

    private final Random random;
    private final List<String> tokens = new ArrayList<>();
    private final List<String> variables = new ArrayList<>();
    private final List<String> own = new ArrayList<>();
    private final List<String> arrays = new ArrayList<>();
    private String[] functions;
    private int[] names;
    private int left;
    private int locals;

    private RandomText(Random random) {
        this.random = random;
    }

    static String next(Random random) {
        RandomText text = new RandomText(random);
        switch (random.nextInt(18)) {
            case 0: case 1: text.ring(); break;
            case 2: text.ladder(); break;
            case 3: case 4: text.table(); break;
            default: text.items();
        }
        if (random.nextInt(6) == 0) {
            for (int n = random.nextInt(3); n >= 0; n--) {
                text.spoil();
            }
        }
        String all = text.join();
        if (random.nextInt(12) == 0 && !all.isEmpty()) {
            int at = random.nextInt(all.length());
            all = all.substring(0, at) + (char) random.nextInt(256) + all.substring(at + random.nextInt(2));
        }
        return all;
    }

    private boolean seldom() {
        return random.nextInt(60) == 0;
    }

    /** So many as a rule, at most; seldom up to one more than there may be. */
    private int many(int usual, int limit) {
        return seldom() ? limit + random.nextInt(2) : random.nextInt(usual + 1);
    }

    private void add(String... some) {
        tokens.addAll(List.of(some));
    }

    /** A walk up and down between two ends, round and round perhaps, with long odds perhaps. */
    private void ring() {
        int ends = 1 + random.nextInt(random.nextInt(3) == 0 ? 20 : 8);
        String up = Integer.toString(random.nextInt(3) == 0 ? 999900 + random.nextInt(100) : 1 + random.nextInt(3));
        String down = Integer.toString(random.nextInt(3) == 0 ? 999900 + random.nextInt(100) : random.nextInt(3));
        add("var", "v0", "=", Integer.toString(random.nextInt(ends)), ";", "var", "v1", ";");
        add("func", "f0", "(", "o0", ")", "{", "gain", "o0", "-", "3", ";", "return", "o0", "}");
        tokens.set(tokens.size() - 1, ";");
        add("}", "func", "main", "(", ")", "{", "while", "v0", "<", Integer.toString(ends), "{");
        add("v0", "~", "{", "v0", "+", "1", ":", up, ",", random.nextBoolean() ? "v0" : "0", "-", "1", ":", down);
        add(",", "v0", ":", Integer.toString(random.nextInt(2)), "}", ";", "if", "v0", "<", "0", "{");
        String[] low = {"observe 0 ;", "return v1 ;", "v0 = 0 ;", "v1 = 1 / v0 ; v0 = 0 ;", "v1 = choose ( 3 ) ; v0 = v1 - 1 ;", "v1 = v1 / v1 ;"};
        add(low[random.nextInt(low.length)].split(" "));
        add("}", "v1", "=", random.nextBoolean() ? "f0" : "choose", "(", random.nextBoolean() ? "2" : "v0", ")", ";");
        add(random.nextBoolean() ? new String[] {"v1", "=", "0", ";"} : new String[0]);
        add("}", "return", "v0", "+", "v1", ";", "}");
    }

    /** Draws one behind the other that a run leaves at each: odds, and worths, of more and more bits. */
    private void ladder() {
        add("var", "v0", ";", "var", "v1", ";", "func", "main", "(", ")", "{", "while", "v0", "<");
        add(Integer.toString(9 + random.nextInt(6)), "{", "v1", "~", "flip", "(", Integer.toString(999800 + random.nextInt(200)));
        add("-", "v0", ",", Integer.toString(1 + random.nextInt(1000000)), ")", ";", "if", "v1", "{");
        String[] leave = {"return v0 ;", "gain v0 ; return 1 ;", "observe 0 ;", "v1 = choose ( 2 ) ; gain v1 * v0 ; return v1 ;"};
        add(leave[random.nextInt(leave.length)].split(" "));
        add("}", "v0", "=", "v0", "+", "1", ";", "}", "}");
    }

    /** A few vars and a cell, each drawn with odds that hang on those before it, or not. */
    private void table() {
        int many = 2 + random.nextInt(3);
        for (int n = 0; n < many; n++) {
            add("var", "v" + n, ";");
        }
        add("arr", "a0", "[", "1", "]", ";", "func", "main", "(", ")", "{");
        for (int n = 0; n <= many; n++) {
            String[] before = {"0", n == 0 ? "1" : "v" + random.nextInt(n), n < 2 ? "2" : "( v" + random.nextInt(n) + " == v0 )"};
            String[] on = before[random.nextInt(3)].split(" ");
            add(n < many ? "v" + n : "a0 [ 0 ]");
            add("~", "{", "1", ":", Integer.toString(1 + random.nextInt(4)), ",");
            add(Integer.toString(random.nextInt(4)), ":", Integer.toString(1 + random.nextInt(3)), "+");
            add(on);
            add("}", ";");
        }
        if (random.nextInt(3) == 0) {
            add("observe", variableOf(many), "|", variableOf(many), ";");
        }
        add("return", variableOf(many), ";", "}");
    }

    private String variableOf(int many) {
        return "v" + random.nextInt(many);
    }

    private void items() {
        int vars = many(4, 10);
        for (int n = 0; n < vars; n++) {
            add("var", "v" + n);
            if (random.nextInt(3) > 0) {
                add("=");
                if (random.nextInt(3) == 0) {
                    add("-");
                }
                add(number());
            }
            add(";");
            variables.add("v" + n);
        }
        int many = many(2, 3);
        for (int n = 0; n < many; n++) {
            int cells = seldom() ? random.nextInt(10) : 1 + random.nextInt(3);
            add("arr", "a" + n, "[", Integer.toString(cells), "]", ";");
            arrays.add("a" + n);
        }
        functions = new String[1 + (random.nextBoolean() ? 0 : many(3, 9))];
        names = new int[functions.length];
        int main = random.nextInt(functions.length);
        for (int f = 0; f < functions.length; f++) {
            functions[f] = f == main ? "main" : "f" + f;
            names[f] = f == main ? seldom() ? 1 : 0 : many(2, 4);
        }
        for (int f = 0; f < functions.length; f++) {
            function(functions[f], names[f], f == main);
        }
    }

    private void function(String name, int many, boolean main) {
        own.clear();
        add("func", name, "(");
        for (int n = 0; n < many; n++) {
            own.add("o" + n);
            add("o" + n);
            if (n + 1 < many) {
                add(",");
            }
        }
        add(")", "{");
        locals = seldom() ? 9 : 2;
        left = random.nextInt(400) == 0 ? 151 : random.nextInt(main ? 14 : 6);
        while (left > 0) {
            statement(0);
        }
        add("}");
    }

    private String number() {
        if (random.nextInt(20) == 0) {
            return Integer.toString(random.nextInt(1000000000));
        }
        return Integer.toString(random.nextInt(random.nextInt(4) == 0 ? 70 : 4));
    }

    private String variable() {
        int all = variables.size() + own.size();
        if (all == 0 || random.nextInt(400) == 0) {
            return "z";
        }
        int n = random.nextInt(all);
        return n < variables.size() ? variables.get(n) : own.get(n - variables.size());
    }

    private void exp(int depth) {
        int sort = random.nextInt(depth > 2 ? 5 : 12);
        boolean known = !variables.isEmpty() || !own.isEmpty();
        if (sort < 2 || sort < 4 && !known) {
            add(number());
        } else if (sort < 4) {
            add(variable());
        } else if (sort == 4) {
            cellOr(depth);
        } else if (sort == 5) {
            add(random.nextBoolean() ? "!" : "-");
            exp(depth + 1);
        } else if (sort == 6) {
            int many = random.nextInt(300) == 0 ? 36 : 1;
            add("(".repeat(many).split(""));
            exp(depth + 1);
            add(")".repeat(many).split(""));
        } else if (sort == 7) {
            exp(depth + 1);
            add("%", Integer.toString(1 + random.nextInt(3)));
        } else {
            // Without brackets two comparisons side by side are a fault, which would be most texts'.
            boolean bare = random.nextInt(12) == 0;
            add(bare ? new String[0] : new String[] {"("});
            exp(depth + 1);
            add(OPERATORS[random.nextInt(OPERATORS.length)]);
            exp(depth + 1);
            add(bare ? new String[0] : new String[] {")"});
        }
    }

    private void cellOr(int depth) {
        if (arrays.isEmpty()) {
            add(number());
            return;
        }
        add(arrays.get(random.nextInt(arrays.size())), "[");
        if (random.nextInt(3) > 0) {
            add("0");
        } else {
            exp(depth + 1);
        }
        add("]");
    }

    private void place() {
        if (!arrays.isEmpty() && random.nextInt(4) == 0) {
            cellOr(1);
        } else {
            add(variable());
        }
    }

    /** An expression of few different numbers, so that states stay few. */
    private void small() {
        if (random.nextInt(3) == 0) {
            exp(1);
        } else {
            add("(");
            exp(1);
            add(")", "%", Integer.toString(2 + random.nextInt(2)));
        }
    }

    private void statement(int depth) {
        left--;
        int sort = random.nextInt(depth > 2 ? 13 : 17);
        boolean known = !variables.isEmpty() || !own.isEmpty();
        if (sort < 2 && own.size() < 8 && locals > 0 || !known && sort < 9) {
            locals--;
            add("local", "o" + own.size(), "=");
            small();
            add(";");
            own.add("o" + own.size());
        } else if (sort < 4) {
            place();
            add("=");
            small();
            add(";");
        } else if (sort < 7) {
            place();
            draw(random.nextInt(3));
        } else if (sort == 7) {
            place();
            add("=", "choose", "(");
            weight(2);
            add(")", ";");
        } else if (sort == 8 || sort == 9) {
            call();
        } else if (sort == 10) {
            add(random.nextInt(3) == 0 ? "return" : "observe");
            exp(0);
            add(";");
        } else if (sort < 13) {
            add("gain");
            exp(0);
            add(";");
        } else {
            nested(sort < 15 ? "if" : "while", depth);
        }
    }

    private void draw(int sort) {
        add("~");
        if (sort == 0) {
            add("pick", "(");
            weight(3);
            add(")");
        } else if (sort == 1) {
            add("flip", "(");
            weight(5);
            add(",");
            weight(5);
            add(")");
        } else {
            add("{");
            int pairs = Math.max(many(3, 8), 1);
            for (int n = 0; n < pairs; n++) {
                small();
                add(":");
                weight(7);
                add(n + 1 < pairs ? "," : "}");
            }
        }
        add(";");
    }

    private void weight(int most) {
        int sort = random.nextInt(12);
        if (sort == 0) {
            exp(1);
        } else if (sort == 1 && most > 3) {
            add(Integer.toString(999990 + random.nextInt(12)));
        } else {
            add(Integer.toString(random.nextInt(most) + (random.nextInt(8) == 0 ? 0 : 1)));
        }
    }

    private void call() {
        if (!variables.isEmpty() && random.nextBoolean()) {
            add(variable(), "=");
        }
        int f = random.nextInt(functions.length);
        int many = names[f] + (random.nextInt(200) == 0 ? 1 : 0);
        add(functions[f], "(");
        for (int n = 0; n < many; n++) {
            small();
            if (n + 1 < many) {
                add(",");
            }
        }
        add(")", ";");
    }

    private void nested(String word, int depth) {
        add(word);
        exp(1);
        add("{");
        for (int n = random.nextInt(4); n > 0 && left > 0; n--) {
            statement(depth + 1);
        }
        add("}");
        if (word.equals("if") && random.nextBoolean()) {
            add("else", "{");
            for (int n = random.nextInt(3); n > 0 && left > 0; n--) {
                statement(depth + 1);
            }
            add("}");
        }
    }

    private void spoil() {
        int at = random.nextInt(tokens.size());
        int sort = random.nextInt(4);
        if (sort == 0 && tokens.size() > 1) {
            tokens.remove(at);
        } else if (sort == 1) {
            tokens.set(at, ANY[random.nextInt(ANY.length)]);
        } else if (sort == 2) {
            tokens.add(at, ANY[random.nextInt(ANY.length)]);
        } else {
            tokens.set(at, tokens.get(random.nextInt(tokens.size())));
        }
    }

    private String join() {
        StringBuilder all = new StringBuilder();
        for (String token : tokens) {
            int sort = random.nextInt(60);
            all.append(sort == 0 ? "\n" : sort == 1 ? "\t" : sort == 2 ? "\r\n" : sort == 3 ? "# a } ; note\n" : sort == 4 ? "" : " ");
            all.append(token);
        }
        return all.append(random.nextInt(3) == 0 ? " # the end" : "").toString();
    }
}
