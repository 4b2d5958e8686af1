import java.util.ArrayList;
import java.util.Arrays;
import java.util.LinkedHashMap;
import java.util.List;
import java.util.Map;

/** A run as part 2 of the document's terms tells it: what is set, the open calls, and how it ended if it did. */
final class PlainRun {
    /** A run fails. */
    static final class Failure extends RuntimeException {
        private static final long serialVersionUID = 1L;
        final int code;

        Failure(int code) {
            super(null, null, false, false);
            this.code = code;
        }
    }

    static final class Call {
        int[] own;
        PlainText.Statement at;
    }

    /** What comes of a statement: the ways that it can go, each with its weight, and what it gains. */
    static final class Doing {
        String sort = "plain";
        int total = 1;
        int gained;
        final List<PlainRun> ways = new ArrayList<>();
        final List<Integer> weights = new ArrayList<>();
    }

    final PlainText program;
    int[] vars;
    private final Map<String, int[]> arrays = new LinkedHashMap<>();
    final List<Call> open = new ArrayList<>();
    /** 0 it goes on, 1 it has ended, 2 failed, 3 is cut; with which number. */
    int how;
    int number;

    private PlainRun(PlainText program) {
        this.program = program;
    }

    static PlainRun begin(PlainText program) {
        PlainRun run = new PlainRun(program);
        run.vars = program.varNumbers.stream().mapToInt(Integer::intValue).toArray();
        program.arraySizes.forEach((name, many) -> run.arrays.put(name, new int[many]));
        run.openCall("main", new int[0]);
        return run;
    }

    private PlainRun copy() {
        PlainRun other = new PlainRun(program);
        other.vars = vars.clone();
        arrays.forEach((name, cells) -> other.arrays.put(name, cells.clone()));
        for (Call call : open) {
            Call twin = new Call();
            twin.own = call.own.clone();
            twin.at = call.at;
            other.open.add(twin);
        }
        return other;
    }

    /** All vars, then all cells. */
    int[] shared() {
        List<Integer> all = new ArrayList<>();
        Arrays.stream(vars).forEach(all::add);
        arrays.values().forEach(cells -> Arrays.stream(cells).forEach(all::add));
        return all.stream().mapToInt(Integer::intValue).toArray();
    }

    /** Two runs are at the same state, or have ended likewise, if these are the same. */
    String key() {
        StringBuilder all = new StringBuilder(how + "/" + number + "/" + Arrays.toString(shared()));
        for (Call call : open) {
            all.append(call.at.number).append(Arrays.toString(call.own));
        }
        return how >= 2 ? how + "/" + number : all.toString();
    }

    Call latest() {
        return open.get(open.size() - 1);
    }

    int[] cells(String array) {
        return arrays.get(array);
    }

    int placeIn(String array, int at) {
        if (at < 0 || at >= arrays.get(array).length) {
            throw new Failure(1);
        }
        return at;
    }

    static int combine(String sign, int a, int b) {
        switch (sign) {
            case "|": return a != 0 || b != 0 ? 1 : 0;
            case "&": return a != 0 && b != 0 ? 1 : 0;
            case "==": return a == b ? 1 : 0;
            case "!=": return a != b ? 1 : 0;
            case "<": return a < b ? 1 : 0;
            case "<=": return a <= b ? 1 : 0;
            case ">": return a > b ? 1 : 0;
            case ">=": return a >= b ? 1 : 0;
            case "+": return a + b;
            case "-": return a - b;
            case "*": return a * b;
            default:
                if (b == 0) {
                    throw new Failure(2);
                }
                return sign.equals("/") ? a / b : a % b;
        }
    }

    private void openCall(String name, int[] numbers) {
        PlainText.Function function = program.functions.get(name);
        Call call = new Call();
        call.own = Arrays.copyOf(numbers, function.own);
        open.add(call);
        goTo(function.body.isEmpty() ? null : function.body.get(0));
    }

    private void goTo(PlainText.Statement to) {
        latest().at = to;
        if (to == null) {
            close(0);
        }
    }

    private void close(int answer) {
        open.remove(open.size() - 1);
        if (open.isEmpty()) {
            how = 1;
            number = answer;
            return;
        }
        PlainText.Statement caller = latest().at;
        if (caller.place != null) {
            put(caller, 0, answer);
        }
        goTo(behind(caller));
    }

    /** The statement that is to be done when this one has been done. */
    private static PlainText.Statement behind(PlainText.Statement s) {
        int next = s.among.indexOf(s) + 1;
        if (next < s.among.size()) {
            return s.among.get(next);
        }
        return s.owner == null || s.owner.what.equals("while") ? s.owner : behind(s.owner);
    }

    private void put(PlainText.Statement s, int cell, int what) {
        if (s.cell != null) {
            arrays.get(s.place)[cell] = what;
        } else if (s.place.equals("own")) {
            latest().own[s.variable] = what;
        } else {
            vars[s.variable] = what;
        }
    }

    /** What comes of the statement that the latest call is AT; this run itself stays as it is. */
    Doing doing() {
        Doing all = new Doing();
        try {
            doInto(all);
        } catch (Failure failure) {
            all = new Doing();
            all.ways.add(ended(2, failure.code));
            all.weights.add(1);
        }
        return all;
    }

    PlainRun ended(int as, int with) {
        PlainRun other = copy();
        other.how = as;
        other.number = with;
        return other;
    }

    private void doInto(Doing all) {
        PlainText.Statement s = latest().at;
        int cell = s.cell == null ? 0 : placeIn(s.place, s.cell.in(this));
        int[] numbers = new int[s.exps.size()];
        for (int n = 0; n < numbers.length; n++) {
            numbers[n] = s.exps.get(n).in(this);
        }
        switch (s.what) {
            case "pick":
                if (numbers[0] < 1 || numbers[0] > 64) {
                    throw new Failure(3);
                }
                for (int n = 0; n < numbers[0]; n++) {
                    way(all, s, cell, n, 1);
                }
                drawn(all);
                break;
            case "flip":
                way(all, s, cell, 1, numbers[0]);
                way(all, s, cell, 0, numbers[1]);
                drawn(all);
                break;
            case "spread":
                for (int n = 0; n < numbers.length; n += 2) {
                    way(all, s, cell, numbers[n], numbers[n + 1]);
                }
                drawn(all);
                break;
            case "choose":
                if (numbers[0] < 1 || numbers[0] > 8) {
                    throw new Failure(5);
                }
                for (int n = 0; n < numbers[0]; n++) {
                    way(all, s, cell, n, 1);
                }
                all.sort = "chooses";
                all.total = 0;
                break;
            default:
                all.weights.add(1);
                all.ways.add(plain(all, s, cell, numbers));
        }
    }

    private void way(Doing all, PlainText.Statement s, int cell, int number, int weight) {
        PlainRun other = copy();
        other.put(s, cell, number);
        other.goTo(behind(s));
        all.ways.add(other);
        all.weights.add(weight);
    }

    private static void drawn(Doing all) {
        all.sort = "draws";
        all.total = 0;
        for (int weight : all.weights) {
            if (weight < 0 || weight > 1000000) {
                throw new Failure(3);
            }
            all.total += weight;
        }
        if (all.total == 0) {
            throw new Failure(3);
        }
    }

    private PlainRun plain(Doing all, PlainText.Statement s, int cell, int[] numbers) {
        PlainRun other = copy();
        switch (s.what) {
            case "set":
                other.put(s, cell, numbers[0]);
                other.goTo(behind(s));
                break;
            case "call":
                if (open.size() == 12) {
                    throw new Failure(4);
                }
                other.openCall(s.called, numbers);
                break;
            case "if":
                List<PlainText.Statement> block = numbers[0] != 0 ? s.then : s.otherwise;
                other.goTo(block.isEmpty() ? behind(s) : block.get(0));
                break;
            case "while":
                other.goTo(numbers[0] == 0 ? behind(s) : s.then.isEmpty() ? s : s.then.get(0));
                break;
            case "return":
                other.close(numbers[0]);
                break;
            case "observe":
                if (numbers[0] == 0) {
                    return ended(3, 0);
                }
                other.goTo(behind(s));
                break;
            default:
                all.gained = numbers[0];
                other.goTo(behind(s));
        }
        return other;
    }
}
