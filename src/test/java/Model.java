import java.util.ArrayList;
import java.util.Arrays;
import java.util.Collections;
import java.util.HashMap;
import java.util.List;
import java.util.Map;
import java.util.function.ToIntFunction;
import java.util.regex.Matcher;
import java.util.regex.Pattern;

/**
 * The document once more, told in another way: a TRIAL copies everything and lets the DAYS really go,
 * refusals are thrown, an act is looked up in a table. ModelTest compares SlowPanes with it.
 */
final class Model {
    static final class Refused extends RuntimeException {
        private static final long serialVersionUID = 1L;
        final int code;

        Refused(int code) {
            super(null, null, false, false);
            this.code = code;
        }
    }

    private static final class Glass {
        int kind;
        int hangs = -9;
        List<Integer> row = new ArrayList<>();

        Glass(int kind, int n) {
            this.kind = kind;
            row.addAll(Collections.nCopies(n, -9));
        }

        Glass copy() {
            Glass copy = new Glass(kind, 0);
            copy.hangs = hangs;
            copy.row.addAll(row);
            return copy;
        }

        int last() {
            return row.get(row.size() - 1);
        }

        boolean moves(int day) {
            return kind == 1 ? (day & 1) == 0 : kind != 2 || (day & 3) == 0;
        }
    }

    private static final class All {
        int today = 0;
        int z = 1;
        int[][] views = new int[4][50];
        int[][] love = new int[3][4];
        List<Glass> panes = new ArrayList<>();

        All() {
            for (int[] row : love) {
                Arrays.fill(row, 1);
            }
        }

        All copy() {
            All copy = new All();
            copy.today = today;
            copy.z = z;
            for (int i = 0; i < 4; i++) {
                copy.views[i] = views[i].clone();
            }
            for (int i = 0; i < 3; i++) {
                copy.love[i] = love[i].clone();
            }
            for (Glass glass : panes) {
                copy.panes.add(glass.copy());
            }
            return copy;
        }

        void day() {
            for (Glass glass : panes) {
                if (glass.moves(today)) {
                    glass.row.remove(glass.row.size() - 1);
                    glass.row.add(0, glass.hangs < 0 ? -9 : today * 10 + glass.hangs);
                }
            }
            today++;
        }

        int told(int glimpse) {
            return glimpse < 0 ? 0 : views[glimpse % 10][glimpse / 10];
        }

        int shown(Glass glass) {
            int last = told(glass.last());
            int ahead = glass.row.size() < 2 ? 0 : told(glass.row.get(glass.row.size() - 2));
            if (glass.kind == 3) {
                return last >> 1;
            }
            if (glass.kind == 4) {
                return (last >> 1) + (ahead >> 1);
            }
            return glass.kind != 5 ? last : glass.last() < 0 ? 0 : 99 - last;
        }

        int worth(int pane, int looker, int n) {
            All trial = copy();
            int sum = 0;
            for (int i = 0; i < n && trial.today < 50; i++) {
                Glass glass = trial.panes.get(pane);
                sum += glass.last() < 0 ? 0 : trial.shown(glass) * love[looker][glass.last() % 10];
                trial.day();
            }
            return sum;
        }

        int cut(int pane, int k) {
            Glass first = panes.get(pane);
            Glass other = new Glass(0, 0);
            other.row.addAll(first.row.subList(k, first.row.size()));
            first.row = new ArrayList<>(first.row.subList(0, k));
            panes.add(other);
            return panes.size() - 1;
        }
    }

    private All all = new All();
    private All kept = null;
    private List<Integer> tape = new ArrayList<>();
    private List<int[]> rows = new ArrayList<>();
    private final long[][] sheets = new long[4][];
    private final int[] sorts = new int[4];
    private final Object[] shelves = new Object[4];
    private final int[] shelfSorts = new int[4];
    private List<Integer> trace = new ArrayList<>();

    private static void need(boolean holds, int code) {
        if (!holds) {
            throw new Refused(code);
        }
    }

    private static void in(int value, int least, int most) {
        need(value >= least && value <= most, -1);
    }

    private Glass glass(int pane) {
        in(pane, 0, all.panes.size() - 1);
        return all.panes.get(pane);
    }

    int feed(long eight, int n) {
        in(n, 1, 8);
        need(tape.size() + n <= 200, -2);
        for (int i = 0; i < n; i++) {
            tape.add((int) (eight >> 8 * i & 255));
        }
        return tape.size();
    }

    int quarry() {
        StringBuilder text = new StringBuilder();
        for (int b : tape) {
            text.append((char) b);
        }
        tape = new ArrayList<>();
        All told = new All();
        told.z = all.z;
        new Text(text.toString(), told).read();
        all = told;
        rows = new ArrayList<>();
        return all.panes.size();
    }

    /** The reader of a TEXT: it has all the words first, and then goes through them. */
    private static final class Text {
        private static final Pattern WORD = Pattern.compile("[a-z]+|[0-9]+|[^ ]", Pattern.DOTALL);
        private static final List<String> KINDS =
            List.of("pane", "thick", "double", "dark", "rippled", "mirror");
        private final List<String> words = new ArrayList<>();
        private final List<Integer> places = new ArrayList<>();
        private final All told;
        private int at = 0;

        Text(String text, All told) {
            this.told = told;
            Matcher matcher = WORD.matcher(text);
            while (matcher.find()) {
                words.add(matcher.group());
                places.add(matcher.start());
            }
            words.add("");
            places.add(text.length());
        }

        void read() {
            while (!words.get(at).isEmpty()) {
                String word = words.get(at);
                if (KINDS.contains(word)) {
                    readGlass(KINDS.indexOf(word));
                } else {
                    readOther(word);
                }
                expect(";");
            }
        }

        private void readGlass(int kind) {
            check(told.panes.size() < 6);
            at++;
            Glass glass = new Glass(kind, number(1, 16));
            told.panes.add(glass);
            if (words.get(at).equals("at")) {
                at++;
                glass.hangs = number(0, 3);
            }
        }

        private void readOther(String word) {
            check(word.equals("view") || word.equals("love") || word.equals("today"));
            at++;
            if (word.equals("today")) {
                told.today = number(0, 50);
            } else if (word.equals("love")) {
                int looker = number(0, 2);
                for (int i = 0; i < 4; i++) {
                    told.love[looker][i] = number(0, 9);
                }
            } else {
                int place = number(0, 3);
                expect("from");
                int day = number(0, 49);
                expect(":");
                told.views[place][day++] = number(0, 99);
                while (words.get(at).equals(",")) {
                    at++;
                    check(day < 50);
                    told.views[place][day++] = number(0, 99);
                }
            }
        }

        private void check(boolean holds) {
            need(holds, -100 - places.get(at));
        }

        private void expect(String word) {
            check(words.get(at).equals(word));
            at++;
        }

        private int number(int least, int most) {
            check(words.get(at).matches("[0-9][0-9]?"));
            int value = Integer.parseInt(words.get(at));
            check(value >= least && value <= most);
            at++;
            return value;
        }
    }

    int view(int place, int day, int v) {
        in(place, 0, 3);
        in(day, 0, 49);
        in(v, 0, 99);
        int was = all.views[place][day];
        all.views[place][day] = v;
        return was;
    }

    int viewOf(int place, int day) {
        in(place, 0, 3);
        in(day, 0, 49);
        return all.views[place][day];
    }

    int love(int looker, int place, int v) {
        in(looker, 0, 2);
        in(place, 0, 3);
        in(v, 0, 9);
        int was = all.love[looker][place];
        all.love[looker][place] = v;
        return was;
    }

    int pane(int kind, int n) {
        in(kind, 0, 5);
        in(n, 1, 16);
        need(all.panes.size() < 6, -2);
        all.panes.add(new Glass(kind, n));
        return all.panes.size() - 1;
    }

    int paneOf(int pane, int what) {
        Glass glass = glass(pane);
        in(what, 0, 4);
        int moves = all.today < 50 && glass.moves(all.today) ? 1 : 0;
        return new int[] {glass.kind, glass.row.size(), glass.hangs, all.shown(glass), moves}[what];
    }

    int glimpse(int pane, int i) {
        Glass glass = glass(pane);
        need(i >= 0 && i < glass.row.size(), -3);
        return glass.row.get(i);
    }

    int hang(int pane, int place) {
        Glass glass = glass(pane);
        in(place, 0, 4);
        int was = glass.hangs;
        glass.hangs = place == 4 ? -9 : place;
        return was;
    }

    int cast(int pane, int kind) {
        Glass glass = glass(pane);
        in(kind, 0, 5);
        int was = glass.kind;
        glass.kind = kind;
        return was;
    }

    int today() {
        return all.today;
    }

    int days(int n) {
        in(n, 0, 50);
        for (int left = n; left > 0 && all.today < 50; left--) {
            all.day();
        }
        return all.today;
    }

    int turn(int pane) {
        Collections.reverse(glass(pane).row);
        return all.shown(glass(pane));
    }

    int cut(int pane, int k) {
        Glass glass = glass(pane);
        need(k >= 1, -1);
        need(k < glass.row.size(), -4);
        need(all.panes.size() < 6, -2);
        return all.cut(pane, k);
    }

    int lay(int first, int second) {
        Glass one = glass(first);
        Glass two = glass(second);
        need(first != second, -1);
        need(one.row.size() + two.row.size() <= 16, -2);
        one.row.addAll(two.row);
        all.panes.remove(second);
        return all.panes.indexOf(one);
    }

    int drop(int pane) {
        glass(pane);
        all.panes.remove(pane);
        return all.panes.size();
    }

    int dark(int pane) {
        glass(pane);
        for (All trial = all.copy(); trial.today < 50; trial.day()) {
            if (trial.panes.get(pane).last() >= 0) {
                return trial.today;
            }
        }
        throw new Refused(-3);
    }

    int seen(int place, int day, int what) {
        in(place, 0, 3);
        in(day, 0, 49);
        in(what, 0, 1);
        for (All trial = all.copy(); trial.today < 50; trial.day()) {
            for (int i = 0; i < trial.panes.size(); i++) {
                if (trial.panes.get(i).last() == day * 10 + place) {
                    return what == 0 ? trial.today : i;
                }
            }
        }
        throw new Refused(-3);
    }

    int worth(int pane, int looker, int n) {
        glass(pane);
        in(looker, 0, 2);
        in(n, 1, 20);
        return all.worth(pane, looker, n);
    }

    private static int greatest(int from, int to, ToIntFunction<Integer> worth) {
        int[] worths = new int[to + 1];
        for (int i = from; i <= to; i++) {
            worths[i] = worth.applyAsInt(i);
        }
        int greatest = Arrays.stream(worths, from, to + 1).max().orElse(0);
        int i = from;
        while (worths[i] < greatest) {
            i++;
        }
        return i;
    }

    int buy(int looker, int n) {
        in(looker, 0, 2);
        in(n, 1, 20);
        need(!all.panes.isEmpty(), -3);
        return greatest(0, all.panes.size() - 1, i -> all.worth(i, looker, n));
    }

    int let(int pane, int looker, int n) {
        worth(pane, looker, n);
        return greatest(0, 4, place -> {
            All trial = all.copy();
            trial.panes.get(pane).hangs = place == 4 ? -9 : place;
            return trial.worth(pane, looker, n);
        });
    }

    int best(int pane, int looker, int n) {
        worth(pane, looker, n);
        need(glass(pane).row.size() > 1, -3);
        return greatest(1, glass(pane).row.size() - 1, k -> {
            All trial = all.copy();
            int other = trial.cut(pane, k);
            return trial.worth(pane, looker, n) + trial.worth(other, looker, n);
        });
    }

    int turned(int pane, int looker, int n) {
        int now = worth(pane, looker, n);
        All trial = all.copy();
        Collections.reverse(trial.panes.get(pane).row);
        return 100000 + trial.worth(pane, looker, n) - now;
    }

    int will(int pane, int day) {
        glass(pane);
        in(day, all.today, 49);
        All trial = all.copy();
        while (trial.today < day) {
            trial.day();
        }
        return trial.shown(trial.panes.get(pane));
    }

    int seed(int v) {
        int was = all.z;
        all.z = v;
        return was;
    }

    int draw(int place, int day) {
        viewOf(place, day);
        all.z = (int) (all.z * 1103515245L + 12345L);
        all.views[place][day] = (int) ((all.z & 0xffffffffL) / 65536 % 100);
        return all.views[place][day];
    }

    private List<int[]> rowsOf(int pane, int n) {
        List<int[]> told = new ArrayList<>();
        for (All trial = all.copy(); trial.today < 50 && told.size() < n; trial.day()) {
            Glass glass = trial.panes.get(pane);
            told.add(new int[] {trial.today, trial.shown(glass), glass.last()});
        }
        return told;
    }

    int prove(int pane, int n) {
        glass(pane);
        in(n, 1, 20);
        rows = rowsOf(pane, n);
        return rows.size();
    }

    int row(int i, int what) {
        need(i >= 0 && i < rows.size() && what >= 0 && what < 3, -99);
        return rows.get(i)[what];
    }

    int alterRow(int i, int what, int v) {
        int was = row(i, what);
        rows.get(i)[what] = v;
        return was;
    }

    int judge(int pane) {
        glass(pane);
        List<int[]> right = rowsOf(pane, rows.size());
        for (int i = 0; i < rows.size(); i++) {
            if (i >= right.size() || !Arrays.equals(rows.get(i), right.get(i))) {
                return i + 1;
            }
        }
        return 0;
    }

    int views(int sheet, int i, int place, int day, int n) {
        in(sheet, 0, 3);
        viewOf(place, day);
        in(n, 0, 50);
        need((long) day + n <= 50, -1);
        need(sheets[sheet] != null, -11);
        need(sorts[sheet] == 0, -13);
        need(i >= 0 && (long) i + n <= sheets[sheet].length, -12);
        for (int j = 0; j < n; j++) {
            long v = sheets[sheet][i + j];
            all.views[place][day + j] = v < 0 ? 0 : v > 99 ? 99 : (int) v;
        }
        return n;
    }

    int sheet(int sheet, int sort, int n) {
        in(sheet, 0, 3);
        in(sort, -1, 3);
        if (sort >= 0) {
            need(n <= 40, -1);
            need(n >= 0, -14);
        }
        sheets[sheet] = sort < 0 ? null : new long[n];
        sorts[sheet] = sort;
        return 1;
    }

    int put(int sheet, int i, int v) {
        in(sheet, 0, 3);
        need(sheets[sheet] != null, -11);
        need(i >= 0 && i < sheets[sheet].length, -12);
        sheets[sheet][i] = sorts[sheet] == 0 ? (byte) v : sorts[sheet] == 1 ? (short) v : v;
        return 1;
    }

    int item(int sheet, int sort, int i) {
        in(sheet, 0, 3);
        in(sort, 0, 3);
        need(sheets[sheet] != null, -11);
        need(sorts[sheet] == sort, -13);
        need(i >= 0 && i < sheets[sheet].length, -12);
        return (int) sheets[sheet][i];
    }

    int shelf(int shelf, int what, int n) {
        in(shelf, 0, 3);
        in(what, 0, 2);
        if (what == 0) {
            glass(n);
            shelves[shelf] = n;
        } else if (what == 1) {
            in(n, 0, 3);
            shelves[shelf] = sheets[n];
            shelfSorts[shelf] = sorts[n];
        } else {
            shelves[shelf] = null;
        }
        return 1;
    }

    int taken(int shelf, int as) {
        in(shelf, 0, 3);
        need(as >= 0 && as <= 5 || as >= 10 && as <= 13, -1);
        Object held = shelves[shelf];
        if (held instanceof Integer) {
            int pane = (Integer) held;
            need(pane < all.panes.size(), -11);
            int kind = all.panes.get(pane).kind;
            List<List<Integer>> above = List.of(List.of(0), List.of(0, 1), List.of(0, 1, 2), List.of(0, 3),
                List.of(0, 3, 4), List.of(0, 5));
            need(above.get(kind).contains(as), -13);
            return pane;
        }
        need(held != null, -11);
        need(as - 10 == shelfSorts[shelf], -13);
        return ((long[]) held).length;
    }

    /** Which KIND each KIND is under. */
    private static final int[] UNDER = {-1, 0, 1, 0, 3, 0};
    /** BODIES by KIND and act. */
    private static final Map<String, Integer> BODIES = new HashMap<>();

    static {
        int[][] bodies = {{0, 0, 10}, {0, 1, 11}, {0, 2, 12}, {0, 3, 13}, {1, 1, 20}, {3, 0, 30}, {3, 3, 31},
            {4, 0, 40}, {4, 1, 41}, {2, 2, 50}, {2, 0, 51}, {5, 3, 60}, {5, 2, 61}};
        for (int[] body : bodies) {
            BODIES.put(body[0] + " " + body[1], body[2]);
        }
    }

    private int run(int pane, int level, int act, int x) {
        int at = level;
        while (!BODIES.containsKey(at + " " + act)) {
            at = UNDER[at];
        }
        int body = BODIES.get(at + " " + act);
        trace.add(body);
        int above = UNDER[at];
        int kind = all.panes.get(pane).kind;
        int a = all.panes.get(pane).row.size();
        switch (body) {
            case 10: return x + pane;
            case 11: return run(pane, kind, 0, x) * 2;
            case 12:
                need(a != pane, -15);
                return x / (a - pane);
            case 13: return run(pane, kind, 1, x) ^ a;
            case 20: return run(pane, above, 1, x) - a;
            case 30: return run(pane, above, 0, x) * 3;
            case 31:
                int tells = run(pane, above, 3, x);
                return tells + run(pane, kind, 2, pane);
            case 40: return -run(pane, above, 0, x);
            case 41:
                int moves = run(pane, above, 1, x);
                return moves + run(pane, kind, 0, pane);
            case 50: return run(pane, above, 2, x + 2) ^ 1;
            case 51: return run(pane, above, 0, x) - pane;
            case 60: return run(pane, above, 3, x) * 2;
            default:
                int shares = run(pane, above, 2, x);
                return shares + run(pane, kind, 0, a);
        }
    }

    int act(int shelf, int act, int x) {
        trace = new ArrayList<>();
        boolean isThing = shelf >= 0 && shelf < 4 && act >= 0 && act < 4 && shelves[shelf] instanceof Integer
            && (Integer) shelves[shelf] < all.panes.size();
        if (!isThing) {
            return 0;
        }
        int pane = (Integer) shelves[shelf];
        return run(pane, all.panes.get(pane).kind, act, x);
    }

    int trace(int i) {
        need(i >= 0 && i < Math.min(30, trace.size()), -3);
        return trace.get(i);
    }

    int many(int what) {
        in(what, 0, 4);
        int lit = 0;
        for (Glass glass : all.panes) {
            lit += (int) glass.row.stream().filter(g -> g >= 0).count();
        }
        return new int[] {all.panes.size(), lit, rows.size(), tape.size(), Math.min(30, trace.size())}[what];
    }

    int keep() {
        kept = all.copy();
        return 1;
    }

    int again() {
        need(kept != null, -3);
        all = kept.copy();
        return all.panes.size();
    }
}
