import java.util.ArrayList;
import java.util.LinkedHashMap;
import java.util.List;
import java.util.Map;

/** A text read as part 1 of the document's terms tells it, with one method for each rule of the grammar. */
final class PlainText {
    /** The fault that is met first. */
    static final class Fault extends RuntimeException {
        private static final long serialVersionUID = 1L;
        final int code;
        final int place;

        Fault(int code, int place) {
            this.code = code;
            this.place = place;
        }
    }

    /** An expression: what it is worked out to in the latest open call of a run. */
    interface Exp {
        int in(PlainRun run);
    }

    static final class Function {
        int names;
        int own;
        final List<Statement> body = new ArrayList<>();
    }

    static final class Statement {
        int number;
        /** What it does: set, pick, flip, spread, choose, call, if, while, return, observe, gain. */
        String what;
        /** The place that it sets: var, own or the name of an array; null for none. */
        String place;
        int variable;
        Exp cell;
        final List<Exp> exps = new ArrayList<>();
        String called;
        final List<Statement> then = new ArrayList<>();
        final List<Statement> otherwise = new ArrayList<>();
        /** The statements among which it stands, and the one whose they are (null: a function's). */
        List<Statement> among;
        Statement owner;
    }

    /** One that stands in the text; a sign or a word is its own sort. */
    private static final class Token {
        String sort;
        String text;
        int place;
    }

    private static final List<String> WORDS = List.of("var", "arr", "func", "local", "if", "else", "while",
            "return", "observe", "gain", "pick", "flip", "choose");
    private static final List<String> SIGNS = List.of("==", "!=", "<=", ">=", "(", ")", "{", "}", "[", "]", ";", ",",
            ":", "~", "=", "<", ">", "+", "-", "*", "/", "%", "&", "|", "!");
    private static final List<String> COMPARISONS = List.of("==", "!=", "<", "<=", ">", ">=");

    final List<Integer> varNumbers = new ArrayList<>();
    final Map<String, Integer> arraySizes = new LinkedHashMap<>();
    final Map<String, Function> functions = new LinkedHashMap<>();
    int statements;
    private final String text;
    private int read;
    private Token here;
    private int brackets;
    private final List<String> vars = new ArrayList<>();
    private final List<String> own = new ArrayList<>();
    private final List<Token> calledNames = new ArrayList<>();
    private final List<Integer> calledWith = new ArrayList<>();
    /** A NAME with which an expression begins, when it had to be taken before that was known. */
    private Token taken;

    PlainText(String text) {
        this.text = text;
        here = readToken();
        while (!here.sort.equals("end")) {
            item();
        }
        lookAtCalls();
    }

    private void lookAtCalls() {
        for (int n = 0; n < calledNames.size(); n++) {
            Function one = functions.get(calledNames.get(n).text);
            if (one == null || one.names != calledWith.get(n)) {
                throw new Fault(16, calledNames.get(n).place);
            }
        }
        if (!functions.containsKey("main") || functions.get("main").names != 0) {
            throw new Fault(17, text.length());
        }
    }

    private static boolean isLetter(char c) {
        return c == '_' || c >= 'a' && c <= 'z' || c >= 'A' && c <= 'Z';
    }

    private static boolean isDigit(char c) {
        return c >= '0' && c <= '9';
    }

    private Token readToken() {
        while (read < text.length() && "\t\n\r #".indexOf(text.charAt(read)) >= 0) {
            if (text.charAt(read) == '#') {
                int line = text.indexOf('\n', read);
                read = line < 0 ? text.length() : line;
            } else {
                read++;
            }
        }
        Token token = new Token();
        token.place = read;
        token.sort = "end";
        token.text = "";
        if (read < text.length()) {
            readInto(token);
        }
        return token;
    }

    private void readInto(Token token) {
        char first = text.charAt(read);
        int to = read;
        if (isLetter(first)) {
            while (to < text.length() && (isLetter(text.charAt(to)) || isDigit(text.charAt(to)))) {
                to++;
            }
        } else if (isDigit(first)) {
            while (to < text.length() && isDigit(text.charAt(to))) {
                to++;
            }
        } else {
            for (String sign : SIGNS) {
                if (to == read && text.startsWith(sign, read)) {
                    to = read + sign.length();
                }
            }
        }
        int most = isLetter(first) ? 12 : isDigit(first) ? 9 : 2;
        if (to == read || to - read > most) {
            throw new Fault(1, read);
        }
        token.text = text.substring(read, to);
        token.sort = isDigit(first) ? "number" : isLetter(first) && !WORDS.contains(token.text) ? "name" : token.text;
        read = to;
    }

    private Token take() {
        Token token = here;
        here = readToken();
        return token;
    }

    private boolean is(String sort) {
        return here.sort.equals(sort);
    }

    private void want(String sort) {
        if (!is(sort)) {
            throw new Fault(2, here.place);
        }
    }

    private Token pass(String sort) {
        want(sort);
        return take();
    }

    private void open(String sign) {
        want(sign);
        if (brackets == 40) {
            throw new Fault(3, here.place);
        }
        brackets++;
        take();
    }

    private void close(String sign) {
        want(sign);
        brackets--;
        take();
    }

    private String tell(int before, int most) {
        want("name");
        if (vars.contains(here.text) || arraySizes.containsKey(here.text) || functions.containsKey(here.text)
                || own.contains(here.text)) {
            throw new Fault(10, here.place);
        }
        if (before == most) {
            throw new Fault(15, here.place);
        }
        return take().text;
    }

    private void item() {
        if (is("var")) {
            varItem();
        } else if (is("arr")) {
            arrItem();
        } else {
            pass("func");
            funcItem();
        }
    }

    private void varItem() {
        take();
        String name = tell(vars.size(), 10);
        int number = 0;
        if (is("=")) {
            take();
            boolean below = is("-");
            if (below) {
                take();
            }
            number = Integer.parseInt(pass("number").text) * (below ? -1 : 1);
        }
        pass(";");
        vars.add(name);
        varNumbers.add(number);
    }

    private void arrItem() {
        take();
        String name = tell(arraySizes.size(), 3);
        open("[");
        want("number");
        int many = Integer.parseInt(here.text);
        if (many < 1 || many > 8) {
            throw new Fault(12, here.place);
        }
        take();
        close("]");
        pass(";");
        arraySizes.put(name, many);
    }

    private void funcItem() {
        String name = tell(functions.size(), 10);
        Function function = new Function();
        own.clear();
        open("(");
        if (!is(")")) {
            own.add(tell(own.size(), 4));
            while (is(",")) {
                take();
                own.add(tell(own.size(), 4));
            }
        }
        close(")");
        function.names = own.size();
        block(function.body, null);
        function.own = own.size();
        own.clear();
        functions.put(name, function);
    }

    private void block(List<Statement> list, Statement owner) {
        open("{");
        while (!is("}")) {
            statement(list, owner);
        }
        close("}");
    }

    private void statement(List<Statement> list, Statement owner) {
        if (!List.of("name", "local", "if", "while", "return", "observe", "gain").contains(here.sort)) {
            throw new Fault(2, here.place);
        }
        if (statements == 150) {
            throw new Fault(15, here.place);
        }
        Statement s = new Statement();
        s.number = statements++;
        s.among = list;
        s.owner = owner;
        list.add(s);
        if (is("name")) {
            byName(s, take());
        } else if (is("local")) {
            local(s);
        } else {
            s.what = take().text;
            s.exps.add(exp());
            if (s.what.equals("if") || s.what.equals("while")) {
                blocks(s);
            } else {
                pass(";");
            }
        }
    }

    private void blocks(Statement s) {
        block(s.then, s);
        if (s.what.equals("if") && is("else")) {
            take();
            block(s.otherwise, s);
        }
    }

    private void local(Statement s) {
        take();
        s.what = "set";
        s.place = "own";
        s.variable = own.size();
        String name = tell(own.size(), 8);
        pass("=");
        s.exps.add(exp());
        pass(";");
        own.add(name);
    }

    private void byName(Statement s, Token name) {
        if (is("(")) {
            call(s, name);
        } else if (is("[")) {
            s.place = arrayOf(name);
            open("[");
            s.cell = exp();
            close("]");
            behind(s);
        } else if (is("=") || is("~")) {
            s.place = own.contains(name.text) ? "own" : "var";
            s.variable = variableOf(name);
            behind(s);
        } else {
            throw new Fault(2, here.place);
        }
        pass(";");
    }

    private void behind(Statement s) {
        if (is("~")) {
            take();
            draw(s);
            return;
        }
        pass("=");
        if (is("choose")) {
            s.what = take().text;
            oneInside(s);
            return;
        }
        if (is("name") && s.cell == null) {
            taken = take();
            if (is("(")) {
                Token name = taken;
                taken = null;
                call(s, name);
                return;
            }
        }
        s.what = "set";
        s.exps.add(exp());
    }

    private void oneInside(Statement s) {
        open("(");
        s.exps.add(exp());
        close(")");
    }

    private void draw(Statement s) {
        if (is("pick")) {
            s.what = take().text;
            oneInside(s);
        } else if (is("flip")) {
            s.what = take().text;
            open("(");
            s.exps.add(exp());
            pass(",");
            s.exps.add(exp());
            close(")");
        } else {
            s.what = "spread";
            open("{");
            pair(s);
            while (is(",")) {
                take();
                pair(s);
            }
            close("}");
        }
    }

    private void pair(Statement s) {
        s.exps.add(exp());
        want(":");
        if (s.exps.size() == 17) {
            throw new Fault(15, here.place);
        }
        take();
        s.exps.add(exp());
    }

    private void call(Statement s, Token name) {
        s.what = "call";
        s.called = name.text;
        open("(");
        if (!is(")")) {
            s.exps.add(exp());
            while (is(",")) {
                take();
                s.exps.add(exp());
            }
        }
        close(")");
        calledNames.add(name);
        calledWith.add(s.exps.size());
    }

    private String arrayOf(Token name) {
        if (!arraySizes.containsKey(name.text)) {
            throw new Fault(11, name.place);
        }
        return name.text;
    }

    private int variableOf(Token name) {
        if (!own.contains(name.text) && !vars.contains(name.text)) {
            throw new Fault(11, name.place);
        }
        return own.contains(name.text) ? own.indexOf(name.text) : vars.indexOf(name.text);
    }

    private Exp exp() {
        Exp left = and();
        while (is("|")) {
            left = both(take().text, left, and());
        }
        return left;
    }

    private Exp and() {
        Exp left = same();
        while (is("&")) {
            left = both(take().text, left, same());
        }
        return left;
    }

    private Exp same() {
        Exp left = sum();
        return COMPARISONS.contains(here.sort) ? both(take().text, left, sum()) : left;
    }

    private Exp sum() {
        Exp left = term();
        while (is("+") || is("-")) {
            left = both(take().text, left, term());
        }
        return left;
    }

    private Exp term() {
        Exp left = not();
        while (is("*") || is("/") || is("%")) {
            left = both(take().text, left, not());
        }
        return left;
    }

    private static Exp both(String sign, Exp left, Exp right) {
        return run -> {
            int a = left.in(run);
            return PlainRun.combine(sign, a, right.in(run));
        };
    }

    private Exp not() {
        StringBuilder signs = new StringBuilder();
        while (taken == null && (is("!") || is("-"))) {
            signs.insert(0, take().text);
        }
        Exp inner = primary();
        return run -> {
            int a = inner.in(run);
            for (char sign : signs.toString().toCharArray()) {
                a = sign == '-' ? -a : a == 0 ? 1 : 0;
            }
            return a;
        };
    }

    private Exp primary() {
        if (taken != null || is("name")) {
            Token name = taken != null ? taken : take();
            taken = null;
            return named(name);
        }
        if (is("number")) {
            int number = Integer.parseInt(take().text);
            return run -> number;
        }
        open("(");
        Exp inner = exp();
        close(")");
        return inner;
    }

    private Exp named(Token name) {
        if (is("[")) {
            String array = arrayOf(name);
            open("[");
            Exp inner = exp();
            close("]");
            return run -> run.cells(array)[run.placeIn(array, inner.in(run))];
        }
        if (is("(")) {
            throw new Fault(2, here.place);
        }
        int variable = variableOf(name);
        boolean mine = own.contains(name.text);
        return run -> mine ? run.latest().own[variable] : run.vars[variable];
    }
}
