import java.util.Arrays;
import java.util.LinkedHashMap;
import java.util.List;
import java.util.Map;

/** All that can be asked of a house, part by part. Asking uses the house up: so tests compare it with a twin's. */
final class Portrait {
    private final ChanceWorks x;
    private final Map<String, String> parts = new LinkedHashMap<>();

    Portrait(ChanceWorks x) {
        this.x = x;
        parts.put("shown", shown());
        parts.put("fault", Integer.toString(x.fault()));
        parts.put("program", counts(0, 3));
        parts.put("explored", explored());
        parts.put("plan", plan());
        parts.put("played", played());
        parts.put("odds of the play", show(12, 0));
        parts.put("solved", solved());
        parts.put("worths", worths());
        // A walk tells which draws were told, but it takes the place of the latest play.
        parts.put("told", Check.of(() -> x.walk(2000)) + played() + x.forget());
        parts.put("tape", x.count(11) + " " + x.program() + " " + x.fault() + " " + counts(0, 3));
    }

    String part(String name) {
        return parts.get(name);
    }

    /** Every part must be that of the other one, but for those that are named, which must not. */
    void differsIn(String what, Portrait other, String... names) {
        List<String> due = Arrays.asList(names);
        for (String name : parts.keySet()) {
            boolean same = parts.get(name).equals(other.parts.get(name));
            if (same == due.contains(name)) {
                Check.due("'" + name + "' after " + what, same ? "nothing else" : parts.get(name),
                        same ? "something else" : other.parts.get(name));
            }
        }
    }

    private String shown() {
        StringBuilder all = new StringBuilder();
        for (int part = 0; part <= 1; part++) {
            all.append(part == 0 ? "" : " / ").append(x.size(part)).append(':').append(Check.part(x, part));
        }
        return all.toString();
    }

    private String counts(int from, int to) {
        StringBuilder all = new StringBuilder();
        for (int what = from; what <= to; what++) {
            all.append(x.count(what)).append(' ');
        }
        return all.toString();
    }

    private String explored() {
        StringBuilder all = new StringBuilder(counts(4, 10));
        for (int k = 0; k < x.count(4); k++) {
            all.append("\n").append(k);
            for (int what = 0; what <= 5; what++) {
                all.append(' ').append(x.state(k, what));
            }
            for (int i = 0; i < x.state(k, 2); i++) {
                all.append(" -> ").append(x.next(k, i, 0)).append('.').append(x.next(k, i, 1)).append('*').append(x.next(k, i, 2));
            }
            int state = k;
            for (int c = -1; c < x.state(k, 1); c++) {
                int call = c;
                for (int i = 0; !Check.of(() -> x.value(state, call, 0)).startsWith("Index") && i < 8; i++) {
                    int which = i;
                    all.append(' ').append(Check.of(() -> x.value(state, call, which)));
                }
            }
        }
        for (int e = 0; e < x.count(5); e++) {
            int ending = e;
            for (int i = -1; i < 8; i++) {
                int which = i;
                all.append(' ').append(Check.of(() -> x.ending(ending, which)));
            }
        }
        return all.toString();
    }

    private String plan() {
        StringBuilder all = new StringBuilder();
        for (int k = 0; k < x.count(4); k++) {
            if (x.state(k, 3) == 1) {
                all.append(x.decided(k)).append(' ');
            }
        }
        return all.toString();
    }

    private String played() {
        StringBuilder all = new StringBuilder();
        for (int what = 0; what < 16; what++) {
            int which = what;
            all.append(' ').append(Check.of(() -> x.played(which)));
        }
        return all.toString();
    }

    private String show(int kind, int v) {
        String sign = Check.of(() -> x.show(kind, v));
        return sign.endsWith("Exception") ? sign : sign + " " + shown();
    }

    private String solved() {
        StringBuilder all = new StringBuilder();
        for (int kind = 0; kind <= 10; kind++) {
            int last = kind == 8 ? x.count(4) : kind == 2 ? x.count(5) : 4;
            for (int v = kind < 4 || kind == 8 ? 0 : last - 1; v < last; v++) {
                all.append(show(kind, v)).append("; ");
            }
        }
        for (int i = 0; i < 3; i++) {
            for (int j = 0; j < 3; j++) {
                int one = i;
                int two = j;
                all.append(Check.of(() -> x.independent(one, two) ? 1 : 0)).append(Check.of(() -> x.given(one, two, 0) ? 1 : 0));
            }
        }
        return all.toString();
    }

    private String worths() {
        StringBuilder all = new StringBuilder(show(11, 0));
        for (int k = 1; k < x.count(4); k++) {
            all.append("; ").append(show(11, k));
        }
        return all.toString();
    }
}
