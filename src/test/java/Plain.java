import java.util.ArrayList;
import java.util.List;

/**
 * A second telling of the document, as plainly as it goes: rows and orders are tried one and all, conditions are
 * reckoned from their text each time. It shares no code with the program and is slow.
 */
final class Plain {
    static final long NO = Long.MIN_VALUE;

    private static final class One implements Cloneable {
        int number, kind, v, cell;
        boolean had;
        int[] row = new int[4];

        One copy() {
            try {
                One one = (One) clone();
                one.row = row.clone();
                return one;
            } catch (CloneNotSupportedException e) {
                throw new IllegalStateException(e);
            }
        }
    }

    private List<One> things = new ArrayList<>();
    private String tape = "";
    private String view = "";
    private int views, tick, tube, left, coins, gain;
    private List<int[]> stood = new ArrayList<>();
    private List<Integer> plan = new ArrayList<>();
    private List<int[]> book = new ArrayList<>();
    private List<Integer> trace = new ArrayList<>();
    private Plain image;

    private void takeFrom(Plain o) {
        things = new ArrayList<>();
        for (One one : o.things) {
            things.add(one.copy());
        }
        tape = o.tape;
        view = o.view;
        views = o.views;
        tick = o.tick;
        tube = o.tube;
        left = o.left;
        coins = o.coins;
        gain = o.gain;
        stood = new ArrayList<>(o.stood);
        plan = new ArrayList<>(o.plan);
        book = new ArrayList<>(o.book);
    }

    // ---- views

    private static final String[] WORDS = {"coin", "adds", "haze", "dear", "dull"};

    /** Whether some view begins with this text; a machine that goes sign by sign. */
    private static boolean canGoOn(String text) {
        return state(text) != null;
    }

    private static boolean isView(String text) {
        String state = state(text);
        return state != null && (state.equals("simple digit") || state.equals("simple end")
            || (state.endsWith("digit") || state.endsWith("end")) && state.startsWith("[]"));
    }

    /**
     * The state after a text: for a clause's head "word ..." and so on, for a condition "[open] what", where open
     * holds the ! and ( that are open; null, if no view begins so.
     */
    private static String state(String text) {
        String state = "word ";
        int clauses = 1;
        for (char c : text.toCharArray()) {
            if (c == ';') {
                boolean ends = state.equals("simple digit") || state.equals("simple end")
                    || state.equals("[] digit") || state.equals("[] end");
                clauses++;
                if (!ends || clauses > 10) {
                    return null;
                }
                state = "word ";
                continue;
            }
            state = state.startsWith("[") ? inCondition(state, c) : inHead(state, c);
            if (state == null) {
                return null;
            }
        }
        return state;
    }

    private static String inHead(String state, char c) {
        if (state.startsWith("word ")) {
            String word = state.substring(5) + c;
            for (String one : WORDS) {
                if (one.equals(word)) {
                    return word.startsWith("d") ? "dear blank" : "simple blank";
                }
                if (one.startsWith(word)) {
                    return "word " + word;
                }
            }
            return null;
        }
        String kind = state.substring(0, state.indexOf(' '));
        switch (state.substring(kind.length() + 1)) {
            case "blank": return c == ' ' ? kind + " number" : null;
            case "number": return c == '0' ? kind + " end" : c >= '1' && c <= '9' ? kind + " digit" : null;
            case "digit":
                if (c >= '0' && c <= '9') {
                    return kind + " end";
                }
                return kind.equals("dear") && c == ' ' ? "[] F" : null;
            default: return kind.equals("dear") && c == ' ' ? "[] F" : null;
        }
    }

    private static String inCondition(String state, char c) {
        String open = state.substring(1, state.indexOf(']'));
        String what = state.substring(state.indexOf(']') + 2);
        switch (what) {
            case "F":
                if (c == '!' || c == '(') {
                    return open.length() < 5 ? "[" + open + c + "] F" : null;
                }
                return "pkvctl".indexOf(c) >= 0 ? "[" + open + "] op" : null;
            case "op": return "<=>".indexOf(c) >= 0 ? "[" + open + "] number" : null;
            case "number":
                if (c < '0' || c > '9') {
                    return null;
                }
                return "[" + lessNots(open) + "] " + (c == '0' ? "end" : "digit");
            default:
                if (what.equals("digit") && c >= '0' && c <= '9') {
                    return "[" + open + "] end";
                }
                if (c == '&' || c == '|') {
                    return "[" + open + "] F";
                }
                if (c == ')' && open.endsWith("(")) {
                    return "[" + lessNots(open.substring(0, open.length() - 1)) + "] end";
                }
                return null;
        }
    }

    /** What is open when an F has ended: the ! right ahead of it have ended, too. */
    private static String lessNots(String open) {
        while (open.endsWith("!")) {
            open = open.substring(0, open.length() - 1);
        }
        return open;
    }

    static int fault(String text) {
        for (int i = 0; i < text.length(); i++) {
            if (!canGoOn(text.substring(0, i + 1))) {
                return i;
            }
        }
        return isView(text) ? -1 : text.length();
    }

    private int last(String word, int without) {
        int n = without;
        for (String clause : view.split(";")) {
            if (clause.startsWith(word)) {
                n = Integer.parseInt(clause.substring(5));
            }
        }
        return n;
    }

    private int coin() {
        return Math.max(1, last("coin", 8));
    }

    private int adds() {
        return last("adds", 0);
    }

    private int haze() {
        return last("haze", 0);
    }

    /** The place of c in e outside of all ( ), the last one; -1: none. */
    private static int outside(String e, char c) {
        int depth = 0;
        for (int i = e.length() - 1; i >= 0; i--) {
            char at = e.charAt(i);
            depth += at == ')' ? 1 : at == '(' ? -1 : 0;
            if (depth == 0 && at == c) {
                return i;
            }
        }
        return -1;
    }

    private boolean holds(String e, One one, int cell, int t) {
        int or = outside(e, '|');
        if (or >= 0) {
            return holds(e.substring(0, or), one, cell, t) || holds(e.substring(or + 1), one, cell, t);
        }
        int and = outside(e, '&');
        if (and >= 0) {
            return holds(e.substring(0, and), one, cell, t) && holds(e.substring(and + 1), one, cell, t);
        }
        if (e.startsWith("!")) {
            return !holds(e.substring(1), one, cell, t);
        }
        if (e.startsWith("(")) {
            return holds(e.substring(1, e.length() - 1), one, cell, t);
        }
        int n = Integer.parseInt(e.substring(2));
        int is;
        switch (e.charAt(0)) {
            case 'p': is = one.number; break;
            case 'k': is = one.kind; break;
            case 'v': is = one.v; break;
            case 'c': is = cell; break;
            case 't': is = t % 10; break;
            default: is = left;
        }
        return e.charAt(1) == '<' ? is < n : e.charAt(1) == '=' ? is == n : is > n;
    }

    // ---- places and worths

    private static int at(One one, int t, int from, int v) {
        int row = from / 6;
        int column = from % 6;
        switch (one.kind) {
            case 1: return row * 6 + (column + t) % 6;
            case 4: return row * 6 + (column + t / 2) % 6;
            case 3: return (from + v * t) % 24;
            case 6: return (from + v * t + one.row[t % 4]) % 24;
            default: return from;
        }
    }

    private static int at(One one, int t) {
        return at(one, t, one.cell, one.v);
    }

    private static boolean dim(One one, int t, int haze) {
        return one.kind != 5 && at(one, t) / 6 < haze;
    }

    private int base(One one, int t) {
        int sum = 0;
        for (String clause : view.split(";")) {
            if (clause.startsWith("d")) {
                int blank = clause.indexOf(' ', 5);
                int n = Integer.parseInt(clause.substring(5, blank));
                if (holds(clause.substring(blank + 1), one, at(one, t), t)) {
                    sum += clause.startsWith("dear") ? n : -n;
                }
            }
        }
        return sum;
    }

    private int worth(One one, int t) {
        int base = base(one, t);
        int boat = 5 + base;
        int house = (4 + base) / 2;
        int[] by = {4 + base, boat, house, base + one.v, at(one, t) % 6 == 0 ? 2 * boat : boat, house + one.v,
            base + one.v + 1};
        return Math.max(0, by[one.kind]);
    }

    private static int step(int cell, int doing) {
        int row = cell / 6 + (doing == 1 ? -1 : doing == 3 ? 1 : 0);
        int column = cell % 6 + (doing == 2 ? 1 : doing == 4 ? -1 : 0);
        return row < 0 || row > 3 || column < 0 || column > 5 ? cell : row * 6 + column;
    }

    private static int far(int a, int b) {
        return Math.abs(a / 6 - b / 6) + Math.abs(a % 6 - b % 6);
    }

    /** What a row of doings (5: black) gains; end[0] is where the tube points then. */
    private int gained(List<Integer> row, int from, int haze, int[] end) {
        int cell = from;
        int sum = 0;
        List<One> seen = new ArrayList<>();
        for (int i = 0; i < row.size(); i++) {
            if (row.get(i) == 5) {
                continue;
            }
            cell = step(cell, row.get(i));
            int t = tick + i + 1;
            for (One one : things) {
                if (at(one, t) == cell && !dim(one, t, haze) && !one.had && !seen.contains(one)) {
                    seen.add(one);
                    sum += worth(one, t);
                }
            }
        }
        end[0] = cell;
        return sum;
    }

    private int lookMost;
    private List<Integer> lookRow = new ArrayList<>();

    private void lookAll(int n, int from, int haze) {
        lookMost = -1;
        int all = 1;
        for (int i = 0; i < n; i++) {
            all *= 5;
        }
        for (int code = 0; code < all; code++) {
            List<Integer> row = new ArrayList<>();
            for (int i = 0, c = code; i < n; i++, c /= 5) {
                row.add(0, c % 5);
            }
            int sum = gained(row, from, haze, new int[1]);
            if (sum > lookMost) {
                lookMost = sum;
                lookRow = row;
            }
        }
    }

    private int soonOf(One one, int from, int t) {
        for (int n = 1; n <= 40; n++) {
            if (far(from, at(one, t + n)) <= n && !dim(one, t + n, haze())) {
                return n;
            }
        }
        return -5;
    }

    private static void orders(List<One> rest, List<One> begun, List<List<One>> all) {
        if (rest.isEmpty()) {
            all.add(new ArrayList<>(begun));
            return;
        }
        for (One one : rest) {
            List<One> less = new ArrayList<>(rest);
            less.remove(one);
            begun.add(one);
            orders(less, begun, all);
            begun.remove(begun.size() - 1);
        }
    }

    private int orderTicks;
    private List<One> orderBest;

    private void orderAll() {
        List<One> rest = new ArrayList<>();
        for (One one : things) {
            if (!one.had) {
                rest.add(one);
            }
        }
        List<List<One>> all = new ArrayList<>();
        orders(rest, new ArrayList<>(), all);
        orderTicks = -5;
        orderBest = new ArrayList<>();
        for (List<One> order : all) {
            int t = tick;
            int cell = tube;
            boolean reached = true;
            for (One one : order) {
                int soon = soonOf(one, cell, t);
                if (soon < 0) {
                    reached = false;
                    break;
                }
                t += soon;
                cell = at(one, t);
            }
            if (reached && (orderTicks < 0 || t - tick < orderTicks)) {
                orderTicks = t - tick;
                orderBest = order;
            }
        }
    }

    private static long lowest(int above, int below, int part) {
        int a = above;
        int b = below;
        while (b != 0) {
            int c = a % b;
            a = b;
            b = c;
        }
        return part == 0 ? above / a : below / a;
    }

    // ---- acts, by the table of bodies

    private static final int[] ABOVE = {-1, 0, 0, 0, 1, 2, 3};
    private static final int[][] BODY = {
        {1, 11, 0, 0, 0, 51, 0},
        {2, 0, 21, 0, 0, 0, 61},
        {3, 0, 0, 31, 41, 0, 0},
    };

    private int run(One one, int kind, int act, int x) {
        int at = kind;
        while (BODY[act][at] == 0) {
            at = ABOVE[at];
        }
        int body = BODY[act][at];
        int above = ABOVE[at];
        trace.add(body);
        switch (body) {
            case 1: return x + one.number;
            case 2: return run(one, one.kind, 0, x) - one.v;
            case 3: return run(one, one.kind, 1, x) * 2;
            case 11: return run(one, above, 0, x * 3);
            case 21: return -run(one, above, 1, x);
            case 31: return run(one, above, 2, x) ^ 7;
            case 41: {
                int first = run(one, above, 2, x - 1);
                return first + run(one, one.kind, 0, 2);
            }
            case 51: return run(one, above, 0, x) ^ one.number;
            default: return run(one, above, 1, x) + one.v;
        }
    }

    // ---- the face

    private static boolean in(int x, int a, int b) {
        return a <= x && x <= b;
    }

    private boolean is(int thing) {
        return in(thing, 0, things.size() - 1);
    }

    int feed(int sign) {
        if (!in(sign, 0, 127)) {
            return -2;
        }
        if (tape.length() == 100) {
            return -4;
        }
        tape += (char) sign;
        return tape.length();
    }

    int view() {
        if (views == 5) {
            return -4;
        }
        String text = tape;
        tape = "";
        int fault = fault(text);
        if (fault >= 0) {
            return -10 - fault;
        }
        view = text;
        return views++;
    }

    int thing(int kind, int v, int cell) {
        if (!in(kind, 0, 6) || !in(cell, 0, 23)) {
            return -1;
        }
        if (!in(v, 0, 9)) {
            return -2;
        }
        if (things.size() == 6) {
            return -4;
        }
        One one = new One();
        one.number = things.size();
        one.kind = kind;
        one.v = v;
        one.cell = cell;
        things.add(one);
        return one.number;
    }

    int of(int thing, int what) {
        if (!is(thing) || !in(what, 0, 3)) {
            return -1;
        }
        One one = things.get(thing);
        return new int[] {one.kind, one.v, one.cell, one.had ? 1 : 0}[what];
    }

    int then(int thing, int n, int what) {
        if (!is(thing) || !in(n, 0, 60) || !in(what, 0, 3)) {
            return -999999;
        }
        One one = things.get(thing);
        int t = tick + n;
        return new int[] {at(one, t), dim(one, t, haze()) ? 1 : 0, base(one, t), worth(one, t)}[what];
    }

    int row(int thing, int k, int n) {
        if (!is(thing) || !in(k, 0, 3)) {
            return -1;
        }
        if (!in(n, 0, 9)) {
            return -2;
        }
        One one = things.get(thing);
        if (one.kind != 6) {
            return -3;
        }
        int was = one.row[k];
        one.row[k] = n;
        return was;
    }

    int move(int thing, int cell) {
        if (!is(thing) || !in(cell, 0, 23)) {
            return -1;
        }
        int was = things.get(thing).cell;
        things.get(thing).cell = cell;
        return was;
    }

    int had(int thing, boolean is) {
        if (!is(thing)) {
            return -1;
        }
        boolean was = things.get(thing).had;
        things.get(thing).had = is;
        return was ? 1 : 0;
    }

    int point(int cell) {
        if (!in(cell, 0, 23)) {
            return -1;
        }
        int was = tube;
        tube = cell;
        return was;
    }

    int told(int what) {
        int bits = 0;
        for (One one : things) {
            bits += one.had ? 1 << one.number : 0;
        }
        int lost = adds() == 0 ? left : Math.max(0, coin() + left - 99);
        return in(what, 0, 9)
            ? new int[] {tick, coin(), adds(), haze(), tube, left, coins, gain, bits, lost}[what] : -1;
    }

    int pay() {
        if (coins == 9999) {
            return -3;
        }
        coins++;
        left = Math.min(99, adds() > 0 ? left + coin() : coin());
        return left;
    }

    int tick(int doing) {
        if (!in(doing, 0, 4)) {
            return -1;
        }
        if (left == 0 || tick == 9999) {
            return -3;
        }
        tube = step(tube, doing);
        int sum = 0;
        for (One one : things) {
            if (at(one, tick + 1) == tube && !dim(one, tick + 1, haze()) && !one.had) {
                one.had = true;
                sum += worth(one, tick + 1);
            }
        }
        gain = Math.min(9999999, gain + sum);
        left--;
        tick++;
        return sum;
    }

    int pass(int n) {
        if (!in(n, 0, 60)) {
            return -2;
        }
        if (tick + n > 9999) {
            return -3;
        }
        for (int i = 0; i < n; i++) {
            tick++;
            left = Math.max(0, left - 1);
        }
        return left;
    }

    int look(int n, int k) {
        if (!in(k, -1, 4)) {
            return -1;
        }
        if (!in(n, 0, 5)) {
            return -2;
        }
        lookAll(n, tube, haze());
        return k == -1 ? lookMost : k < lookRow.size() ? lookRow.get(k) : -5;
    }

    int aim(int n, int what) {
        if (!in(what, 0, 1)) {
            return -1;
        }
        if (!in(n, 1, 3)) {
            return -2;
        }
        int which = -1;
        int most = -1;
        for (int cell = 0; cell < 24; cell++) {
            lookAll(n, cell, haze());
            if (lookMost > most) {
                most = lookMost;
                which = cell;
            }
        }
        return what == 0 ? which : most;
    }

    int soon(int thing) {
        return is(thing) ? soonOf(things.get(thing), tube, tick) : -1;
    }

    int order(int k) {
        if (!in(k, -1, 5)) {
            return -1;
        }
        orderAll();
        return k == -1 ? orderTicks : k < orderBest.size() ? orderBest.get(k).number : -5;
    }

    int stood(int thing, int n, int cell) {
        if (thing == -1) {
            stood.clear();
            return 0;
        }
        if (!is(thing) || !in(cell, 0, 23)) {
            return -1;
        }
        if (!in(n, 0, 40)) {
            return -2;
        }
        if (stood.size() == 5) {
            return -4;
        }
        stood.add(new int[] {thing, n, cell});
        return stood.size();
    }

    private boolean isSo(One one, int from, int v) {
        boolean so = true;
        for (int[] row : stood) {
            so &= row[0] != one.number || at(one, tick + row[1], from, v) == row[2];
        }
        return so;
    }

    int from(int thing) {
        if (!is(thing)) {
            return -1;
        }
        int bits = 0;
        for (int cell = 0; cell < 24; cell++) {
            bits += isSo(things.get(thing), cell, things.get(thing).v) ? 1 << cell : 0;
        }
        return bits;
    }

    int firm(int thing, int what) {
        if (!is(thing) || !in(what, 0, 1)) {
            return -1;
        }
        List<Integer> so = new ArrayList<>();
        for (int v = 0; v <= 9; v++) {
            if (isSo(things.get(thing), things.get(thing).cell, v)) {
                so.add(v);
            }
        }
        return what == 0 ? so.size() : so.isEmpty() ? -5 : so.get(0);
    }

    long odds(int n, int q, int part) {
        if (!in(n, 0, 3) || !in(q, 0, 9999) || !in(part, 0, 1)) {
            return NO;
        }
        int many = 0;
        for (int haze = 0; haze < 4; haze++) {
            lookAll(n, tube, haze);
            many += lookMost >= q ? 1 : 0;
        }
        return lowest(many, 4, part);
    }

    long mean(int part) {
        int sum = 0;
        int many = 0;
        for (One one : things) {
            if (!one.had) {
                sum += worth(one, tick);
                many++;
            }
        }
        return in(part, 0, 1) && many > 0 ? lowest(sum, many, part) : NO;
    }

    int plan(int doing) {
        if (doing == -1) {
            plan.clear();
            return 0;
        }
        if (!in(doing, 0, 5)) {
            return -1;
        }
        if (plan.size() == 8) {
            return -4;
        }
        plan.add(doing);
        return plan.size();
    }

    int done(int what) {
        int[] end = new int[1];
        int sum = gained(plan, tube, haze(), end);
        return in(what, 0, 2) ? new int[] {sum, end[0], Math.max(0, left - plan.size())}[what] : -1;
    }

    int book(int thing, int cell) {
        if (thing == -1) {
            book.clear();
            return 0;
        }
        if (!is(thing) || !in(cell, 0, 23)) {
            return -1;
        }
        if (book.size() == 8) {
            return -4;
        }
        book.add(new int[] {thing, cell});
        return book.size();
    }

    int looked() {
        for (int i = 0; i < book.size(); i++) {
            if (at(things.get(book.get(i)[0]), tick) != book.get(i)[1]) {
                return i;
            }
        }
        return -5;
    }

    int act(int thing, int act, int x) {
        trace.clear();
        return is(thing) && in(act, 0, 2) ? run(things.get(thing), things.get(thing).kind, act, x) : 0;
    }

    int trace(int i) {
        return in(i, 0, Math.min(20, trace.size()) - 1) ? trace.get(i) : -1;
    }

    int as(int thing, int k) {
        if (!is(thing) || !in(k, 0, 6)) {
            return -1;
        }
        One one = things.get(thing);
        for (int kind = one.kind; kind >= 0; kind = ABOVE[kind]) {
            if (kind == k) {
                return one.v;
            }
        }
        return -6;
    }

    int image() {
        image = new Plain();
        image.takeFrom(this);
        return things.size();
    }

    int undo() {
        if (image == null) {
            return -3;
        }
        takeFrom(image);
        return things.size();
    }

    int count(int what) {
        return in(what, 0, 6)
            ? new int[] {things.size(), views, stood.size(), plan.size(), book.size(), tape.length(),
                trace.size()}[what] : -1;
    }
}
