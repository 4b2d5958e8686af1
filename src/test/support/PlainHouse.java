import java.math.BigInteger;
import java.util.ArrayList;
import java.util.BitSet;
import java.util.HashMap;
import java.util.HashSet;
import java.util.LinkedHashMap;
import java.util.List;
import java.util.Map;
import java.util.Set;

/** The document's face once more, as slow and as plain as its words, to be compared with the class call by call. */
final class PlainHouse {
    private static final int NONE = -1;

    /** What is explored, with the plan. */
    private static final class Explored {
        final List<PlainRun> states = new ArrayList<>();
        final List<PlainRun> endings = new ArrayList<>();
        final Map<String, Integer> stateNumbers = new HashMap<>();
        final Map<String, Integer> endingNumbers = new HashMap<>();
        /** Of each state its nexts: what each is, its number, its weight. */
        final List<List<int[]>> nexts = new ArrayList<>();
        final List<PlainRun.Doing> doings = new ArrayList<>();
        final Map<Integer, Integer> plan = new HashMap<>();
        int nextsInAll;
    }

    private String tape = "";
    private PlainText program;
    private int faultCode;
    private Explored explored;
    private List<PlainFraction> visits;
    private List<PlainFraction> worths;
    private PlainFraction shown = PlainFraction.ZERO;
    private final List<Integer> told = new ArrayList<>();
    private long[] playedNumbers;
    private PlainFraction playedOdds;

    int feed(int a, int b, int c, int d, int e) {
        if (tape.length() + 20 > 65536) {
            throw new UnsupportedOperationException();
        }
        StringBuilder more = new StringBuilder();
        for (int number : new int[] {a, b, c, d, e}) {
            for (int n = 3; n >= 0; n--) {
                more.append((char) (number >> 8 * n & 255));
            }
        }
        tape += more;
        return tape.length();
    }

    void end(int n) {
        if (n < 0 || n > tape.length()) {
            throw new IllegalArgumentException();
        }
        tape = tape.substring(0, n);
    }

    int program() {
        String text = tape;
        tape = "";
        try {
            program = new PlainText(text);
        } catch (PlainText.Fault fault) {
            faultCode = fault.code;
            return -1 - fault.place;
        }
        faultCode = 0;
        explored = null;
        visits = null;
        worths = null;
        playedNumbers = null;
        return program.statements;
    }

    int fault() {
        return faultCode;
    }

    int count(int what) {
        there(what >= 0 && what <= 11);
        if (what == 11) {
            return tape.length();
        }
        if (what < 4 ? program == null : explored == null) {
            return 0;
        }
        switch (what) {
            case 0: return program.varNumbers.size();
            case 1: return program.arraySizes.size();
            case 2: return program.functions.size();
            case 3: return program.statements;
            case 4: return explored.states.size();
            case 5: return explored.endings.size();
            case 6: return explored.nextsInAll;
            case 7: return rings(false).size();
            case 8: return rings(false).stream().mapToInt(Set::size).max().orElse(0);
            case 9: return (int) explored.doings.stream().filter(doing -> doing.sort.equals("chooses")).count();
            default: return explored.states.size() - open(false).cardinality();
        }
    }

    private static void there(boolean is) {
        if (!is) {
            throw new IndexOutOfBoundsException();
        }
    }

    private static void now(boolean is) {
        if (!is) {
            throw new IllegalStateException();
        }
    }

    private static void inRange(int number, int from, int to) {
        if (number < from || number > to) {
            throw new IllegalArgumentException();
        }
    }

    int explore(int most) {
        now(program != null);
        inRange(most, 1, 1000);
        visits = null;
        worths = null;
        explored = find(most);
        return explored == null ? NONE : explored.states.size();
    }

    /** All that there is, or null if it is more than may be. */
    private Explored find(int most) {
        Explored all = new Explored();
        PlainRun first = PlainRun.begin(program);
        numberOf(all, first);
        for (int k = 0; k < all.states.size(); k++) {
            PlainRun.Doing doing = all.states.get(k).doing();
            List<int[]> nexts = new ArrayList<>();
            for (int n = 0; n < doing.ways.size(); n++) {
                if (doing.weights.get(n) > 0) {
                    PlainRun way = doing.ways.get(n);
                    lead(nexts, way.how, numberOf(all, way), doing.weights.get(n), !doing.sort.equals("chooses"));
                }
            }
            all.doings.add(doing);
            all.nexts.add(nexts);
            all.nextsInAll += nexts.size();
            if (all.states.size() > most || all.endings.size() > 1000 || all.nextsInAll > 20000) {
                return null;
            }
        }
        return all;
    }

    private static void lead(List<int[]> nexts, int how, int number, int weight, boolean joins) {
        for (int[] before : nexts) {
            if (joins && before[0] == how && before[1] == number) {
                before[2] += weight;
                return;
            }
        }
        nexts.add(new int[] {how, number, weight});
    }

    private static int numberOf(Explored all, PlainRun run) {
        if (run.how >= 2) {
            return run.number;
        }
        Map<String, Integer> numbers = run.how == 0 ? all.stateNumbers : all.endingNumbers;
        List<PlainRun> list = run.how == 0 ? all.states : all.endings;
        Integer old = numbers.get(run.key());
        if (old == null) {
            old = list.size();
            numbers.put(run.key(), old);
            list.add(run);
        }
        return old;
    }

    private boolean chooses(int k) {
        return explored.doings.get(k).sort.equals("chooses");
    }

    /** The nexts of a state: all of them, or those of odds above 0. */
    private List<int[]> nexts(int k, boolean byPlan) {
        List<int[]> all = explored.nexts.get(k);
        return byPlan && chooses(k) ? List.of(all.get(explored.plan.getOrDefault(k, 0))) : all;
    }

    /** The states that can come to what is no state. */
    private BitSet open(boolean byPlan) {
        BitSet found = new BitSet();
        int before = NONE;
        while (before < found.cardinality()) {
            before = found.cardinality();
            for (int k = explored.states.size() - 1; k >= 0; k--) {
                for (int[] next : nexts(k, byPlan)) {
                    if (next[0] != 0 || found.get(next[1])) {
                        found.set(k);
                    }
                }
            }
        }
        return found;
    }

    /** The states that a state can come to by one next or more. */
    private BitSet reach(int from, boolean byPlan) {
        BitSet found = new BitSet();
        List<Integer> wait = new ArrayList<>(List.of(from));
        while (!wait.isEmpty()) {
            for (int[] next : nexts(wait.remove(wait.size() - 1), byPlan)) {
                if (next[0] == 0 && !found.get(next[1])) {
                    found.set(next[1]);
                    wait.add(next[1]);
                }
            }
        }
        return found;
    }

    private Set<Set<Integer>> rings(boolean byPlan) {
        List<BitSet> reached = new ArrayList<>();
        for (int k = 0; k < explored.states.size(); k++) {
            reached.add(reach(k, byPlan));
        }
        Set<Set<Integer>> all = new HashSet<>();
        for (int k = 0; k < reached.size(); k++) {
            Set<Integer> ring = new HashSet<>();
            for (int other = 0; other < reached.size(); other++) {
                if (reached.get(k).get(other) && reached.get(other).get(k)) {
                    ring.add(other);
                }
            }
            if (!ring.isEmpty()) {
                all.add(ring);
            }
        }
        return all;
    }

    private void holds(int k) {
        there(explored != null && k >= 0 && k < explored.states.size());
    }

    int state(int k, int what) {
        holds(k);
        there(what >= 0 && what <= 5);
        PlainRun state = explored.states.get(k);
        switch (what) {
            case 0: return state.latest().at.number;
            case 1: return state.open.size();
            case 2: return explored.nexts.get(k).size();
            case 3: return chooses(k) ? 1 : 0;
            case 4: return open(false).get(k) ? 0 : 1;
            default: return explored.doings.get(k).total;
        }
    }

    int value(int k, int c, int i) {
        holds(k);
        PlainRun state = explored.states.get(k);
        there(c >= NONE && c < state.open.size());
        int[] row = c == NONE ? state.shared() : state.open.get(c).own;
        there(i >= 0 && i < row.length);
        return row[i];
    }

    int next(int k, int i, int what) {
        holds(k);
        there(i >= 0 && i < explored.nexts.get(k).size() && what >= 0 && what <= 2);
        return explored.nexts.get(k).get(i)[what];
    }

    int ending(int k, int i) {
        there(explored != null && k >= 0 && k < explored.endings.size());
        int[] row = explored.endings.get(k).shared();
        there(i >= NONE && i < row.length);
        return i == NONE ? explored.endings.get(k).number : row[i];
    }

    int decide(int k, int c) {
        int before = decided(k);
        there(c >= 0 && c < explored.nexts.get(k).size());
        explored.plan.put(k, c);
        visits = null;
        return before;
    }

    int decided(int k) {
        holds(k);
        there(chooses(k));
        return explored.plan.getOrDefault(k, 0);
    }

    int best() {
        now(explored != null);
        if (!rings(false).isEmpty()) {
            return -2;
        }
        Map<Integer, PlainFraction> found = new HashMap<>();
        for (int k = explored.states.size() - 1; k >= 0; k--) {
            worth(k, found);
        }
        List<PlainFraction> list = new ArrayList<>();
        for (int k = 0; k < explored.states.size(); k++) {
            list.add(found.get(k));
            if (found.get(k).isLong()) {
                return -3;
            }
        }
        for (int k = 0; k < list.size(); k++) {
            int greatest = 0;
            for (int n = 1; n < explored.nexts.get(k).size(); n++) {
                if (behind(k, n, found).minus(behind(k, greatest, found)).top.signum() > 0) {
                    greatest = n;
                }
            }
            explored.plan.put(k, greatest);
        }
        worths = list;
        visits = null;
        return 0;
    }

    private PlainFraction behind(int k, int n, Map<Integer, PlainFraction> found) {
        int[] next = explored.nexts.get(k).get(n);
        return next[0] == 0 ? worth(next[1], found) : PlainFraction.ZERO;
    }

    private PlainFraction worth(int k, Map<Integer, PlainFraction> found) {
        PlainFraction known = found.get(k);
        if (known != null) {
            return known;
        }
        PlainRun.Doing doing = explored.doings.get(k);
        PlainFraction all = chooses(k) ? behind(k, 0, found) : PlainFraction.of(doing.gained, 1);
        for (int n = 0; n < explored.nexts.get(k).size(); n++) {
            PlainFraction one = behind(k, n, found);
            if (!chooses(k)) {
                all = all.plus(one.times(PlainFraction.of(explored.nexts.get(k).get(n)[2], doing.total)));
            } else if (one.minus(all).top.signum() > 0) {
                all = one;
            }
        }
        found.put(k, all);
        return all;
    }

    int solve() {
        now(explored != null);
        visits = null;
        BitSet open = open(true);
        for (Set<Integer> ring : rings(true)) {
            if (ring.size() > 32 && open.get(ring.iterator().next())) {
                return -2;
            }
        }
        List<PlainFraction> found = findVisits(open);
        for (PlainFraction one : found) {
            if (one.isLong()) {
                return -3;
            }
        }
        visits = found;
        return 0;
    }

    private PlainFraction odds(int k, int[] next) {
        return chooses(k) ? PlainFraction.ONE : PlainFraction.of(next[2], explored.doings.get(k).total);
    }

    /**
     * Each state's visits are what comes to it from states (by their numbers; -1 for the beginning itself). The last
     * state is taken out of all others' sums again and again, until only the beginning is left.
     */
    private List<PlainFraction> findVisits(BitSet open) {
        int many = explored.states.size();
        List<Map<Integer, PlainFraction>> sums = new ArrayList<>();
        for (int k = 0; k < many; k++) {
            sums.add(new LinkedHashMap<>());
        }
        if (many > 0 && open.get(0)) {
            sums.get(0).put(NONE, PlainFraction.ONE);
        }
        for (int k = open.nextSetBit(0); k >= 0; k = open.nextSetBit(k + 1)) {
            for (int[] next : nexts(k, true)) {
                if (next[0] == 0 && open.get(next[1])) {
                    sums.get(next[1]).merge(k, odds(k, next), PlainFraction::plus);
                }
            }
        }
        for (int k = many - 1; k >= 0; k--) {
            Map<Integer, PlainFraction> sum = sums.get(k);
            PlainFraction own = sum.remove(k);
            if (own != null) {
                sum.replaceAll((from, part) -> part.over(PlainFraction.ONE.minus(own)));
            }
            for (int other = 0; other < k; other++) {
                putInto(sums.get(other), k, sum);
            }
        }
        List<PlainFraction> found = new ArrayList<>();
        for (int k = 0; k < many; k++) {
            PlainFraction all = PlainFraction.ZERO;
            for (Map.Entry<Integer, PlainFraction> part : sums.get(k).entrySet()) {
                PlainFraction from = part.getKey() == NONE ? PlainFraction.ONE : found.get(part.getKey());
                all = all.plus(from.times(part.getValue()));
            }
            found.add(all);
        }
        return found;
    }

    private static void putInto(Map<Integer, PlainFraction> sum, int k, Map<Integer, PlainFraction> what) {
        PlainFraction times = sum.remove(k);
        if (times != null) {
            what.forEach((from, part) -> sum.merge(from, part.times(times), PlainFraction::plus));
        }
    }

    /** What weighs that is of a sort (1 endings, 2 failures, 3 the cut) and has a number (null: any). */
    private PlainFraction weight(int sort, Integer number) {
        if (explored.states.isEmpty()) {
            return sort == 1 && (number == null || number == 0) ? PlainFraction.ONE : PlainFraction.ZERO;
        }
        PlainFraction all = PlainFraction.ZERO;
        for (int k = 0; k < explored.states.size(); k++) {
            for (int[] next : nexts(k, true)) {
                if (next[0] == sort && (number == null || next[1] == number)) {
                    all = all.plus(visits.get(k).times(odds(k, next)));
                }
            }
        }
        return all;
    }

    private PlainFraction endsWith(int number) {
        PlainFraction all = PlainFraction.ZERO;
        for (int e = 0; e < explored.endings.size(); e++) {
            if (explored.endings.get(e).number == number) {
                all = all.plus(weight(1, e));
            }
        }
        return all;
    }

    private PlainFraction endsAll() {
        PlainFraction all = PlainFraction.ZERO;
        for (int e = 0; e < explored.endings.size(); e++) {
            all = all.plus(weight(1, e).times(PlainFraction.of(explored.endings.get(e).number, 1)));
        }
        return all;
    }

    private PlainFraction gain() {
        PlainFraction all = PlainFraction.ZERO;
        for (int k = 0; k < explored.states.size(); k++) {
            all = all.plus(visits.get(k).times(PlainFraction.of(explored.doings.get(k).gained, 1)));
        }
        return all;
    }

    private PlainFraction allVisits() {
        PlainFraction all = PlainFraction.ZERO;
        for (PlainFraction one : visits) {
            all = all.plus(one);
        }
        return all;
    }

    private PlainFraction kept() {
        return weight(1, null).plus(weight(2, null));
    }

    int show(int kind, int v) {
        inRange(kind, 0, 12);
        now(kind == 12 ? playedNumbers != null : kind == 11 ? worths != null : visits != null);
        now(kind > 1 || !kept().isZero());
        now(kind != 10 || !weight(1, null).isZero());
        there(kind != 2 || v >= 0 && v < explored.endings.size());
        there(kind != 8 && kind != 11 || v >= 0 && v < explored.states.size());
        shown = fraction(kind, v);
        return shown.top.signum();
    }

    private PlainFraction fraction(int kind, int v) {
        switch (kind) {
            case 0: return endsWith(v).over(kept());
            case 1: return weight(2, v).over(kept());
            case 2: return weight(1, v);
            case 3: return weight(2, v);
            case 4: return weight(3, null);
            case 5: return PlainFraction.ONE.minus(kept()).minus(weight(3, null));
            case 6: return kept();
            case 7: return gain();
            case 8: return visits.get(v);
            case 9: return allVisits();
            case 10: return endsAll().over(weight(1, null));
            case 11: return worths.get(v);
            default: return playedOdds;
        }
    }

    private BigInteger part(int part) {
        there(part == 0 || part == 1);
        return part == 0 ? shown.top.abs() : shown.bottom;
    }

    int size(int part) {
        return (part(part).bitLength() + 31) / 32;
    }

    int limb(int part, int i) {
        there(i >= 0 && i < size(part));
        return part(part).shiftRight(32 * i).intValue();
    }

    int tell(int draw) {
        if (told.size() == 200) {
            throw new UnsupportedOperationException();
        }
        told.add(draw);
        return told.size();
    }

    int forget() {
        int before = told.size();
        told.clear();
        return before;
    }

    int play(long seed, int most) {
        now(program != null);
        inRange(most, 0, 2000);
        return perform(seed, null, most);
    }

    int walk(int most) {
        now(program != null);
        inRange(most, 0, 2000);
        return perform(0, told, most);
    }

    private int perform(long seed, List<Integer> draws, int most) {
        PlainRun run = PlainRun.begin(program);
        long x = seed;
        long done = 0;
        int drawn = 0;
        long gained = 0;
        PlainFraction odds = PlainFraction.ONE;
        boolean stops = false;
        while (run.how == 0 && done < most && !stops) {
            PlainRun.Doing doing = run.doing();
            int way = 0;
            if (doing.sort.equals("chooses")) {
                Integer k = explored == null ? null : explored.stateNumbers.get(run.key());
                way = k == null ? 0 : explored.plan.getOrDefault(k, 0);
            } else if (doing.sort.equals("draws")) {
                x = x * 6364136223846793005L + 1442695040888963407L;
                stops = draws != null && drawn == draws.size();
                way = stops ? 0 : draws != null ? draws.get(drawn) : bySeed(doing, (x >>> 33) % doing.total);
            }
            if (stops) {
                break;
            }
            done++;
            gained += doing.gained;
            if (way < 0 || way >= doing.ways.size()) {
                run = run.ended(2, 6);
            } else {
                if (doing.sort.equals("draws")) {
                    drawn++;
                    odds = odds.times(PlainFraction.of(doing.weights.get(way), doing.total));
                }
                run = doing.ways.get(way);
            }
        }
        int[] shared = run.shared();
        playedNumbers = new long[5 + shared.length];
        System.arraycopy(new long[] {run.how, run.how == 0 ? 0 : run.number, done, drawn, gained}, 0, playedNumbers, 0, 5);
        for (int i = 0; i < shared.length; i++) {
            playedNumbers[5 + i] = shared[i];
        }
        playedOdds = odds;
        return run.how;
    }

    private static int bySeed(PlainRun.Doing doing, long rest) {
        long sum = 0;
        for (int n = 0; n < doing.weights.size(); n++) {
            sum += doing.weights.get(n);
            if (sum > rest) {
                return n;
            }
        }
        throw new AssertionError("weights are fewer than their total");
    }

    long played(int what) {
        there(what >= 0 && what < 5 + shareds());
        return playedNumbers == null ? 0 : playedNumbers[what];
    }

    private int shareds() {
        return program == null ? 0 : program.varNumbers.size()
                + program.arraySizes.values().stream().mapToInt(Integer::intValue).sum();
    }

    boolean independent(int i, int j) {
        now(visits != null);
        there(i >= 0 && i < shareds() && j >= 0 && j < shareds());
        return isProduct(i, j, NONE, 0);
    }

    boolean given(int i, int j, int third) {
        now(visits != null);
        there(i >= 0 && i < shareds() && j >= 0 && j < shareds() && third >= 0 && third < shareds());
        for (int c : numbersOf(third)) {
            if (!isProduct(i, j, third, c)) {
                return false;
            }
        }
        return true;
    }

    private Set<Integer> numbersOf(int i) {
        Set<Integer> all = new HashSet<>();
        explored.endings.forEach(ending -> all.add(ending.shared()[i]));
        return all;
    }

    /** Among the endings whose third is c (all of them, third NONE). */
    private boolean isProduct(int i, int j, int third, int c) {
        Map<Integer, PlainFraction> first = new HashMap<>();
        Map<Integer, PlainFraction> second = new HashMap<>();
        Map<List<Integer>, PlainFraction> both = new HashMap<>();
        PlainFraction all = PlainFraction.ZERO;
        for (int e = 0; e < explored.endings.size(); e++) {
            int[] row = explored.endings.get(e).shared();
            if (third == NONE || row[third] == c) {
                PlainFraction weight = weight(1, e);
                first.merge(row[i], weight, PlainFraction::plus);
                second.merge(row[j], weight, PlainFraction::plus);
                both.merge(List.of(row[i], row[j]), weight, PlainFraction::plus);
                all = all.plus(weight);
            }
        }
        for (int a : first.keySet()) {
            for (int b : second.keySet()) {
                PlainFraction together = both.getOrDefault(List.of(a, b), PlainFraction.ZERO);
                if (!together.times(all).isSame(first.get(a).times(second.get(b)))) {
                    return false;
                }
            }
        }
        return true;
    }
}
