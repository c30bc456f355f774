import java.util.Arrays;

/** A coin telescope on a pier: a view of cells, things in it, and what is seen, soon seen and best looked at. */
public final class CoinTelescope {
    public static final int NONE = -1, BAD = -2, STATE = -3, FULL = -4;
    public static final long NO = Long.MIN_VALUE;

    // Answers of the document that have no name in its face.
    private static final int NOT_THERE = -5, OTHER_KIND = -6, FAULTY = -10, NONE_BELOW = -999999;

    private static final int CELLS = 24, COLUMNS = 6, VIEW_ROWS = 4;
    private static final int MOST_THINGS = 6, MOST_V = 9, ROW_SIZE = 4;
    private static final int THING = 0, BOAT = 1, HOUSE = 2, BIRD = 3, SHIP = 4, SPIRE = 5, TOLD = 6;
    private static final int MOST_SIGNS = 100, LAST_SIGN = 127, MOST_VIEWS = 5;
    private static final int MOST_STOOD = 5, MOST_PLAN = 8, MOST_BOOK = 8, TRACE_KEPT = 20;
    private static final int LAST_TICK = 9999, MOST_LEFT = 99, MOST_COINS = 9999, MOST_GAIN = 9999999;
    private static final int DOINGS = 5, UP = 1, RIGHT = 2, DOWN = 3, LEFTWARD = 4, BLACK = 5;
    private static final int MOST_LOOK = 5, MOST_AIM = 3, MOST_ODDS = 3, MOST_Q = 9999, HAZES = 4;
    private static final int MOST_THEN = 60, MOST_PASS = 60, MOST_STOOD_TICKS = 40, MOST_SOON = 40;

    private final State now;
    private final State saved;
    private final Table trace;
    private final Search search;
    private boolean hasImage;

    public CoinTelescope() {
        now = new State();
        saved = new State();
        trace = new Table(1, TRACE_KEPT);
        search = new Search(now);
        hasImage = false;
    }

    // ---- views, things

    public int feed(int sign) {
        if (!within(sign, 0, LAST_SIGN)) {
            return BAD;
        }
        return now.tape.isFull() ? FULL : now.tape.add(sign, 0, 0);
    }

    public int view() {
        if (now.viewCount >= MOST_VIEWS) {
            return FULL;
        }
        View read = new View();
        int fault = read.readFrom(now.tape.firstColumn());
        now.tape.clear();
        if (fault != View.NO_FAULT) {
            return FAULTY - fault;
        }
        now.view = read;
        now.viewCount++;
        return now.viewCount - 1;
    }

    public int thing(int kind, int v, int cell) {
        if (!within(kind, THING, TOLD) || !isCell(cell)) {
            return NONE;
        }
        if (!within(v, 0, MOST_V)) {
            return BAD;
        }
        if (now.thingCount >= MOST_THINGS) {
            return FULL;
        }
        return now.put(newThing(kind, now.thingCount, v), cell);
    }

    public int of(int thing, int what) {
        Thing one = now.find(thing);
        if (one == null || !within(what, 0, 3)) {
            return NONE;
        }
        switch (what) {
            case 0: return one.kind;
            case 1: return one.v;
            case 2: return now.homeOf(thing);
            default: return bit(now.isHad(thing));
        }
    }

    public int then(int thing, int n, int what) {
        Thing one = now.find(thing);
        if (one == null || !within(n, 0, MOST_THEN) || !within(what, 0, 3)) {
            return NONE_BELOW;
        }
        int tick = now.tick + n;
        int cell = now.cellOn(one, tick);
        switch (what) {
            case 0: return cell;
            case 1: return bit(one.isDim(cell, now.view.haze));
            case 2: return now.baseOn(one, cell, tick);
            default: return now.worthOn(one, cell, tick);
        }
    }

    public int row(int thing, int k, int n) {
        Thing one = now.find(thing);
        if (one == null || !within(k, 0, ROW_SIZE - 1)) {
            return NONE;
        }
        if (!within(n, 0, 9)) {
            return BAD;
        }
        return one.kind == TOLD ? now.changeRow(thing, k, n) : STATE;
    }

    public int move(int thing, int cell) {
        if (now.find(thing) == null || !isCell(cell)) {
            return NONE;
        }
        return now.changeHome(thing, cell);
    }

    public int had(int thing, boolean is) {
        if (now.find(thing) == null) {
            return NONE;
        }
        int was = bit(now.isHad(thing));
        int its = 1 << thing;
        now.had = is ? now.had | its : now.had & ~its;
        return was;
    }

    public int point(int cell) {
        if (!isCell(cell)) {
            return NONE;
        }
        int was = now.tube;
        now.tube = cell;
        return was;
    }

    public int told(int what) {
        switch (what) {
            case 0: return now.tick;
            case 1: return now.view.coin;
            case 2: return now.view.adds;
            case 3: return now.view.haze;
            case 4: return now.tube;
            case 5: return now.left;
            case 6: return now.coins;
            case 7: return now.gain;
            case 8: return now.had;
            case 9: return lostByACoin();
            default: return NONE;
        }
    }

    public int pay() {
        if (now.coins >= MOST_COINS) {
            return STATE;
        }
        now.coins++;
        int ahead = now.view.adds > 0 ? now.left : 0;
        now.left = Math.min(MOST_LEFT, ahead + now.view.coin);
        return now.left;
    }

    public int tick(int doing) {
        if (!within(doing, 0, DOINGS - 1)) {
            return NONE;
        }
        if (now.left <= 0 || now.tick >= LAST_TICK) {
            return STATE;
        }
        search.foresee(1, now.view.haze);
        now.tube = moved(now.tube, doing);
        int gained = search.gainAt(1, now.tube, now.had);
        now.had |= search.seenAt(1, now.tube);
        now.gain = Math.min(MOST_GAIN, now.gain + gained);
        now.left--;
        now.tick++;
        return gained;
    }

    public int pass(int n) {
        if (!within(n, 0, MOST_PASS)) {
            return BAD;
        }
        if (now.tick + n > LAST_TICK) {
            return STATE;
        }
        now.tick += n;
        now.left = Math.max(0, now.left - n);
        return now.left;
    }

    // ---- what to look at

    public int look(int n, int k) {
        if (!within(k, -1, MOST_LOOK - 1)) {
            return NONE;
        }
        if (!within(n, 0, MOST_LOOK)) {
            return BAD;
        }
        if (k >= n) {
            return NOT_THERE;
        }
        search.foresee(n, now.view.haze);
        int most = search.mostFrom(now.tube, n);
        return k < 0 ? most : search.bestDoing(k);
    }

    public int aim(int n, int what) {
        if (!within(what, 0, 1)) {
            return NONE;
        }
        if (!within(n, 1, MOST_AIM)) {
            return BAD;
        }
        search.foresee(n, now.view.haze);
        int which = 0;
        int most = -1;
        for (int cell = 0; cell < CELLS; cell++) {
            int much = search.mostFrom(cell, n);
            if (much > most) {
                which = cell;
                most = much;
            }
        }
        return what == 0 ? which : most;
    }

    public int soon(int thing) {
        Thing one = now.find(thing);
        return one == null ? NONE : search.soonFrom(one, now.tube, 0);
    }

    public int order(int k) {
        if (!within(k, -1, MOST_THINGS - 1)) {
            return NONE;
        }
        int ticks = search.fewestTicks();
        return k < 0 ? ticks : search.bestThing(k);
    }

    // ---- stood, odds; part 0 above, 1 below the line

    public int stood(int thing, int n, int cell) {
        if (thing == -1) {
            return now.stood.clear();
        }
        if (now.find(thing) == null || !isCell(cell)) {
            return NONE;
        }
        if (!within(n, 0, MOST_STOOD_TICKS)) {
            return BAD;
        }
        return now.stood.isFull() ? FULL : now.stood.add(thing, n, cell);
    }

    public int from(int thing) {
        Thing one = now.find(thing);
        if (one == null) {
            return NONE;
        }
        int cells = 0;
        for (int home = 0; home < CELLS; home++) {
            if (now.stoodIsSo(one, home, one.v)) {
                cells |= 1 << home;
            }
        }
        return cells;
    }

    public int firm(int thing, int what) {
        Thing one = now.find(thing);
        if (one == null || !within(what, 0, 1)) {
            return NONE;
        }
        int many = 0;
        int least = NOT_THERE;
        for (int v = MOST_V; v >= 0; v--) {
            if (now.stoodIsSo(one, now.homeOf(thing), v)) {
                many++;
                least = v;
            }
        }
        return what == 0 ? many : least;
    }

    public long odds(int n, int q, int part) {
        if (!within(n, 0, MOST_ODDS) || !within(q, 0, MOST_Q) || !within(part, 0, 1)) {
            return NO;
        }
        int enough = 0;
        for (int haze = 0; haze < HAZES; haze++) {
            search.foresee(n, haze);
            if (search.mostFrom(now.tube, n) >= q) {
                enough++;
            }
        }
        return partOf(enough, HAZES, part);
    }

    public long mean(int part) {
        int sum = 0;
        int many = 0;
        for (int i = 0; i < now.thingCount; i++) {
            Thing one = now.find(i);
            if (one != null && !now.isHad(i)) {
                sum += now.worthOn(one, now.cellOn(one, now.tick), now.tick);
                many++;
            }
        }
        return within(part, 0, 1) && many > 0 ? partOf(sum, many, part) : NO;
    }

    // ---- plans, books

    public int plan(int doing) {
        if (doing == -1) {
            return now.plan.clear();
        }
        if (!within(doing, 0, BLACK)) {
            return NONE;
        }
        return now.plan.isFull() ? FULL : now.plan.add(doing, 0, 0);
    }

    public int done(int what) {
        if (!within(what, 0, 2)) {
            return NONE;
        }
        int rows = now.plan.size();
        search.foresee(rows, now.view.haze);
        int cell = now.tube;
        int had = now.had;
        int gained = 0;
        for (int row = 0; row < rows; row++) {
            int doing = now.plan.get(row, 0);
            if (doing != BLACK) {
                cell = moved(cell, doing);
                gained += search.gainAt(row + 1, cell, had);
                had |= search.seenAt(row + 1, cell);
            }
        }
        switch (what) {
            case 0: return gained;
            case 1: return cell;
            default: return Math.max(0, now.left - rows);
        }
    }

    public int book(int thing, int cell) {
        if (thing == -1) {
            return now.book.clear();
        }
        if (now.find(thing) == null || !isCell(cell)) {
            return NONE;
        }
        return now.book.isFull() ? FULL : now.book.add(thing, cell, 0);
    }

    public int looked() {
        for (int row = 0; row < now.book.size(); row++) {
            Thing one = now.find(now.book.get(row, 0));
            if (one != null && now.cellOn(one, now.tick) != now.book.get(row, 1)) {
                return row;
            }
        }
        return NOT_THERE;
    }

    // ---- acts, the image

    public int act(int thing, int act, int x) {
        trace.clear();
        Thing one = now.find(thing);
        if (one == null) {
            return 0;
        }
        switch (act) {
            case 0: return one.shows(x);
            case 1: return one.shakes(x);
            case 2: return one.tells(x);
            default: return 0;
        }
    }

    public int trace(int i) {
        return trace.get(i, 0);
    }

    public int as(int thing, int k) {
        Thing one = now.find(thing);
        if (one == null || !within(k, THING, TOLD)) {
            return NONE;
        }
        return isOfKind(one, k) ? one.v : OTHER_KIND;
    }

    public int image() {
        saved.becomeAs(now);
        hasImage = true;
        return now.thingCount;
    }

    public int undo() {
        if (!hasImage) {
            return STATE;
        }
        now.becomeAs(saved);
        return now.thingCount;
    }

    public int count(int what) {
        switch (what) {
            case 0: return now.thingCount;
            case 1: return now.viewCount;
            case 2: return now.stood.size();
            case 3: return now.plan.size();
            case 4: return now.book.size();
            case 5: return now.tape.size();
            case 6: return trace.size();
            default: return NONE;
        }
    }

    // ---- helpers

    private static boolean within(int number, int least, int most) {
        return number >= least && number <= most;
    }

    private static boolean isIn(int[] array, int at) {
        return at >= 0 && at < array.length;
    }

    private static void copy(int[] from, int[] to) {
        System.arraycopy(from, 0, to, 0, Math.min(from.length, to.length));
    }

    private static boolean isCell(int cell) {
        return within(cell, 0, CELLS - 1);
    }

    private static int bit(boolean is) {
        return is ? 1 : 0;
    }

    private static int rowOf(int cell) {
        return cell / COLUMNS;
    }

    private static int columnOf(int cell) {
        return cell % COLUMNS;
    }

    private static int far(int cell, int other) {
        return Math.abs(rowOf(cell) - rowOf(other)) + Math.abs(columnOf(cell) - columnOf(other));
    }

    /** The cell that a doing brings the tube to; at the view's edge it holds still. */
    private static int moved(int cell, int doing) {
        switch (doing) {
            case UP: return rowOf(cell) > 0 ? cell - COLUMNS : cell;
            case RIGHT: return columnOf(cell) < COLUMNS - 1 ? cell + 1 : cell;
            case DOWN: return rowOf(cell) < VIEW_ROWS - 1 ? cell + COLUMNS : cell;
            case LEFTWARD: return columnOf(cell) > 0 ? cell - 1 : cell;
            default: return cell;
        }
    }

    /** The part (0 above, 1 below the line) of above / below in lowest terms; below is small and above 0. */
    private static long partOf(int above, int below, int part) {
        int shared = 1;
        for (int d = 2; d <= below; d++) {
            if (above % d == 0 && below % d == 0) {
                shared = d;
            }
        }
        return (part == 0 ? above : below) / shared;
    }

    private static boolean isOfKind(Thing one, int kind) {
        switch (kind) {
            case THING: return true;
            case BOAT: return one instanceof Boat;
            case HOUSE: return one instanceof House;
            case BIRD: return one instanceof Bird;
            case SHIP: return one instanceof Ship;
            case SPIRE: return one instanceof Spire;
            default: return one instanceof Told;
        }
    }

    private Thing newThing(int kind, int number, int v) {
        switch (kind) {
            case BOAT: return new Boat(kind, number, v, trace);
            case HOUSE: return new House(kind, number, v, trace);
            case BIRD: return new Bird(kind, number, v, trace);
            case SHIP: return new Ship(kind, number, v, trace);
            case SPIRE: return new Spire(kind, number, v, trace);
            case TOLD: return new Told(kind, number, v, trace);
            default: return new Thing(kind, number, v, trace);
        }
    }

    private int lostByACoin() {
        return now.view.adds > 0 ? Math.max(0, now.view.coin + now.left - MOST_LEFT) : now.left;
    }

    /** What never changes of one thing, and what its kind does. All that changes of it is in State. */
    private static class Thing {
        final int kind;
        final int number;
        final int v;
        final Table trace;

        Thing(int kind, int number, int v, Table trace) {
            this.kind = kind;
            this.number = number;
            this.v = v;
            this.trace = trace;
        }

        /**
         * Where it is on a tick. Home, pace (its v) and extra (its row's number then) are told,
         * because it is also asked where it would be, had it others than its own.
         */
        int placeOn(int tick, int home, int pace, int extra) {
            return home;
        }

        boolean isDim(int cell, int haze) {
            return rowOf(cell) < haze;
        }

        /** May be below 0: it is held at 0 only in the end, when the kinds below have made theirs of it. */
        int worthBy(int base, int cell) {
            return 4 + base;
        }

        int shows(int x) {
            trace.add(1, 0, 0);
            return x + number;
        }

        int shakes(int x) {
            trace.add(2, 0, 0);
            return shows(x) - v;
        }

        int tells(int x) {
            trace.add(3, 0, 0);
            return shakes(x) * 2;
        }
    }

    private static class Boat extends Thing {
        Boat(int kind, int number, int v, Table trace) {
            super(kind, number, v, trace);
        }

        int placeOn(int tick, int home, int pace, int extra) {
            int column = home % COLUMNS;
            return home - column + (column + tick) % COLUMNS;
        }

        int worthBy(int base, int cell) {
            return 5 + base;
        }

        int shows(int x) {
            trace.add(11, 0, 0);
            return super.shows(x * 3);
        }
    }

    private static class House extends Thing {
        House(int kind, int number, int v, Table trace) {
            super(kind, number, v, trace);
        }

        int worthBy(int base, int cell) {
            return super.worthBy(base, cell) / 2;
        }

        int shakes(int x) {
            trace.add(21, 0, 0);
            return -super.shakes(x);
        }
    }

    private static class Bird extends Thing {
        Bird(int kind, int number, int v, Table trace) {
            super(kind, number, v, trace);
        }

        int placeOn(int tick, int home, int pace, int extra) {
            return (home + pace * tick) % CELLS;
        }

        int worthBy(int base, int cell) {
            return base + v;
        }

        int tells(int x) {
            trace.add(31, 0, 0);
            return super.tells(x) ^ 7;
        }
    }

    private static final class Ship extends Boat {
        Ship(int kind, int number, int v, Table trace) {
            super(kind, number, v, trace);
        }

        int placeOn(int tick, int home, int pace, int extra) {
            return super.placeOn(tick / 2, home, pace, extra);
        }

        int worthBy(int base, int cell) {
            int asBoat = super.worthBy(base, cell);
            return columnOf(cell) == 0 ? asBoat * 2 : asBoat;
        }

        int tells(int x) {
            trace.add(41, 0, 0);
            return super.tells(x - 1) + shows(2);
        }
    }

    private static final class Spire extends House {
        Spire(int kind, int number, int v, Table trace) {
            super(kind, number, v, trace);
        }

        boolean isDim(int cell, int haze) {
            return false;
        }

        int worthBy(int base, int cell) {
            return super.worthBy(base, cell) + v;
        }

        int shows(int x) {
            trace.add(51, 0, 0);
            return super.shows(x) ^ number;
        }
    }

    private static final class Told extends Bird {
        Told(int kind, int number, int v, Table trace) {
            super(kind, number, v, trace);
        }

        int placeOn(int tick, int home, int pace, int extra) {
            return (super.placeOn(tick, home, pace, extra) + extra) % CELLS;
        }

        int worthBy(int base, int cell) {
            return super.worthBy(base, cell) + 1;
        }

        int shakes(int x) {
            trace.add(61, 0, 0);
            return super.shakes(x) + v;
        }
    }

    /** Rows of one to three numbers. Only the first ones, up to the limit, are kept; all are counted. */
    private static final class Table {
        private final int width;
        private final int limit;
        private final int[] numbers;
        private int size;

        Table(int width, int limit) {
            this.width = Math.max(1, width);
            this.limit = Math.max(0, limit);
            numbers = new int[this.width * this.limit];
            size = 0;
        }

        int size() {
            return size;
        }

        boolean isFull() {
            return size >= limit;
        }

        /** Answers how many rows there are then: 0. */
        int clear() {
            size = 0;
            return size;
        }

        /** Numbers beyond the table's width are dropped. Answers how many rows have come. */
        int add(int first, int second, int third) {
            int at = size * width;
            if (size < limit && at >= 0 && at + width <= numbers.length) {
                numbers[at] = first;
                if (width > 1) {
                    numbers[at + 1] = second;
                }
                if (width > 2) {
                    numbers[at + 2] = third;
                }
            }
            size++;
            return size;
        }

        /** NONE, if no such row is kept. */
        int get(int row, int column) {
            if (row < 0 || row >= size || row >= limit || column < 0 || column >= width) {
                return NONE;
            }
            int at = row * width + column;
            return at < numbers.length ? numbers[at] : NONE;
        }

        /** The first numbers of all rows that are kept. */
        int[] firstColumn() {
            int[] column = new int[Math.min(size, limit)];
            for (int row = 0; row < column.length; row++) {
                column[row] = get(row, 0);
            }
            return column;
        }

        void becomeAs(Table other) {
            size = other.size;
            copy(other.numbers, numbers);
        }
    }

    /** A text read into clauses. What is dear or dull is kept as code in postfix form, one piece a clause. */
    private static final class View {
        static final int NO_FAULT = -1;

        private static final int MOST_CLAUSES = 10, MOST_OPEN = 5, END = -1;
        private static final String WORDS = "coinaddshazedeardull", LETTERS = "pkvctl", COMPARERS = "<=>";
        private static final int WORD_SIZE = 4, WORD_COUNT = 5;
        private static final int COIN = 0, ADDS = 1, HAZE = 2, DEAR = 3;
        private static final int NOT = -1, AND = -2, OR = -3, COMPARER_STEP = 100, LETTER_STEP = 300;

        int coin;
        int adds;
        int haze;
        private final int[] code;
        private int codeSize;
        private final int[] amounts;
        private final int[] ends;
        private int clauses;
        private int[] signs;
        private int at;

        View() {
            coin = 8;
            adds = 0;
            haze = 0;
            code = new int[MOST_SIGNS];
            codeSize = 0;
            amounts = new int[MOST_CLAUSES];
            ends = new int[MOST_CLAUSES];
            clauses = 0;
            signs = new int[0];
            at = 0;
        }

        /** Reads a new view from signs: NO_FAULT, or the place of the first sign with which none can go on. */
        int readFrom(int[] text) {
            signs = text;
            int read = 0;
            do {
                if (!readClause()) {
                    return at;
                }
                read++;
            } while (read < MOST_CLAUSES && take(';'));
            return next() == END ? NO_FAULT : at;
        }

        // Each of these answers whether (or what) it read; if not, the reading stands at the fault.

        private boolean readClause() {
            int word = readWord();
            if (word < 0 || !take(' ')) {
                return false;
            }
            int n = readNumber();
            if (n < 0) {
                return false;
            }
            switch (word) {
                case COIN: coin = Math.max(1, n); return true;
                case ADDS: adds = n; return true;
                case HAZE: haze = n; return true;
                default: break;
            }
            if (!take(' ') || !readJoined(OR, 0)) {
                return false;
            }
            keepCondition(word == DEAR ? n : -n);
            return true;
        }

        /** Goes as far as the longest beginning that a word has in common with the text. */
        private int readWord() {
            int longest = 0;
            for (int word = 0; word < WORD_COUNT; word++) {
                int same = sameSigns(word * WORD_SIZE);
                if (same == WORD_SIZE) {
                    at += WORD_SIZE;
                    return word;
                }
                longest = Math.max(longest, same);
            }
            at += longest;
            return NONE;
        }

        private int sameSigns(int wordStart) {
            int same = 0;
            while (same < WORD_SIZE && wordStart + same < WORDS.length() && at + same < signs.length
                    && signs[at + same] == WORDS.charAt(wordStart + same)) {
                same++;
            }
            return same;
        }

        private int readNumber() {
            int first = next() - '0';
            if (first < 0 || first > 9) {
                return NONE;
            }
            at++;
            int second = next() - '0';
            if (first == 0 || second < 0 || second > 9) {
                return first;
            }
            at++;
            return first * 10 + second;
        }

        /** An E (parts joined by |), or a T (parts joined by &), inside so many of ! and ( that are open. */
        private boolean readJoined(int joiner, int open) {
            char sign = joiner == OR ? '|' : '&';
            int read = 0;
            do {
                if (joiner == OR ? !readJoined(AND, open) : !readOne(open)) {
                    return false;
                }
                if (read > 0) {
                    emit(joiner);
                }
                read++;
            } while (read <= MOST_SIGNS && take(sign));
            return true;
        }

        private boolean readOne(int open) {
            int sign = next();
            if (sign != '!' && sign != '(') {
                return readTest();
            }
            if (open >= MOST_OPEN) {
                return false;
            }
            at++;
            if (sign == '(') {
                return readJoined(OR, open + 1) && take(')');
            }
            if (!readOne(open + 1)) {
                return false;
            }
            emit(NOT);
            return true;
        }

        private boolean readTest() {
            int letter = readPlaceIn(LETTERS);
            if (letter < 0) {
                return false;
            }
            int comparer = readPlaceIn(COMPARERS);
            if (comparer < 0) {
                return false;
            }
            int n = readNumber();
            if (n < 0) {
                return false;
            }
            emit(letter * LETTER_STEP + comparer * COMPARER_STEP + n);
            return true;
        }

        /** Which of these the next sign is; NONE, if it is none of them. */
        private int readPlaceIn(String choice) {
            int sign = next();
            int place = sign == END ? NONE : choice.indexOf((char) sign);
            if (place >= 0) {
                at++;
            }
            return place;
        }

        private boolean take(char sign) {
            boolean isNext = next() == sign;
            if (isNext) {
                at++;
            }
            return isNext;
        }

        private int next() {
            return at >= 0 && at < signs.length ? signs[at] : END;
        }

        /** There is room for all: each piece of code stands for one sign of the text at least. */
        private void emit(int piece) {
            if (isIn(code, codeSize)) {
                code[codeSize] = piece;
                codeSize++;
            }
        }

        /** The code emitted since the last one is this one's. */
        private void keepCondition(int amount) {
            if (isIn(amounts, clauses) && isIn(ends, clauses)) {
                amounts[clauses] = amount;
                ends[clauses] = codeSize;
                clauses++;
            }
        }

        /** Facts: the numbers that p, k, v, c, t and l stand for. */
        int baseBy(int[] facts) {
            int base = 0;
            int start = 0;
            for (int i = 0; i < clauses && i < amounts.length && i < ends.length; i++) {
                if (holds(start, ends[i], facts)) {
                    base += amounts[i];
                }
                start = ends[i];
            }
            return base;
        }

        /** The stack is the bits of a number, its top the lowest: five levels of ( never need more than 13 of them. */
        private boolean holds(int start, int end, int[] facts) {
            int stack = 0;
            for (int i = Math.max(0, start); i < end && i < code.length; i++) {
                int piece = code[i];
                switch (piece) {
                    case NOT: stack ^= 1; break;
                    case AND: stack = (stack >>> 1) & (stack | ~1); break;
                    case OR: stack = (stack >>> 1) | (stack & 1); break;
                    default: stack = stack << 1 | bit(testHolds(piece, facts));
                }
            }
            return (stack & 1) == 1;
        }

        private static boolean testHolds(int piece, int[] facts) {
            int letter = piece / LETTER_STEP;
            if (letter < 0 || letter >= facts.length) {
                return false;
            }
            int fact = facts[letter];
            int n = piece % COMPARER_STEP;
            switch (piece % LETTER_STEP / COMPARER_STEP) {
                case 0: return fact < n;
                case 1: return fact == n;
                default: return fact > n;
            }
        }
    }

    /** All that there is but the image and the trace. */
    private static final class State {
        final Table tape;
        View view;
        int viewCount;
        int thingCount;
        private final Thing[] things;
        private final int[] homes;
        private final int[] rows;
        int had;
        int tick;
        int tube;
        int left;
        int coins;
        int gain;
        final Table stood;
        final Table plan;
        final Table book;
        // Only for one question's time, to make no new array for each.
        private final int[] facts;

        State() {
            tape = new Table(1, MOST_SIGNS);
            view = new View();
            things = new Thing[MOST_THINGS];
            homes = new int[MOST_THINGS];
            rows = new int[MOST_THINGS * ROW_SIZE];
            stood = new Table(3, MOST_STOOD);
            plan = new Table(1, MOST_PLAN);
            book = new Table(2, MOST_BOOK);
            facts = new int[6];
        }

        /** The thing of that number; null if there is no such. */
        Thing find(int i) {
            return i >= 0 && i < thingCount && i < things.length ? things[i] : null;
        }

        /** Takes a new thing behind the others: its number. */
        int put(Thing one, int home) {
            int i = thingCount;
            if (i < 0 || i >= things.length || i >= homes.length) {
                return FULL;
            }
            things[i] = one;
            homes[i] = home;
            thingCount++;
            return i;
        }

        int homeOf(int i) {
            return isIn(homes, i) ? homes[i] : 0;
        }

        int changeHome(int i, int home) {
            int was = homeOf(i);
            if (isIn(homes, i)) {
                homes[i] = home;
            }
            return was;
        }

        int rowNumber(int i, int k) {
            int at = i * ROW_SIZE + k;
            return isIn(rows, at) ? rows[at] : 0;
        }

        int changeRow(int i, int k, int n) {
            int was = rowNumber(i, k);
            int at = i * ROW_SIZE + k;
            if (isIn(rows, at)) {
                rows[at] = n;
            }
            return was;
        }

        boolean isHad(int i) {
            return (had >> i & 1) == 1;
        }

        int cellOn(Thing one, int tick) {
            return one.placeOn(tick, homeOf(one.number), one.v, rowNumber(one.number, tick % ROW_SIZE));
        }

        int baseOn(Thing one, int cell, int tick) {
            if (facts.length < 6) {
                return 0;
            }
            facts[0] = one.number;
            facts[1] = one.kind;
            facts[2] = one.v;
            facts[3] = cell;
            facts[4] = tick % 10;
            facts[5] = left;
            return view.baseBy(facts);
        }

        int worthOn(Thing one, int cell, int tick) {
            return Math.max(0, one.worthBy(baseOn(one, cell, tick), cell));
        }

        /** Whether all of stood that is of one is so, did it come from that home and had it that v. */
        boolean stoodIsSo(Thing one, int home, int v) {
            for (int i = 0; i < stood.size(); i++) {
                int then = tick + stood.get(i, 1);
                int cell = one.placeOn(then, home, v, rowNumber(one.number, then % ROW_SIZE));
                if (stood.get(i, 0) == one.number && stood.get(i, 2) != cell) {
                    return false;
                }
            }
            return true;
        }

        /** Things and views never change once they are made, so both states may hold the same ones. */
        void becomeAs(State other) {
            tape.becomeAs(other.tape);
            view = other.view;
            viewCount = other.viewCount;
            thingCount = other.thingCount;
            for (int i = 0; i < things.length && i < other.things.length; i++) {
                things[i] = other.things[i];
            }
            copy(other.homes, homes);
            copy(other.rows, rows);
            had = other.had;
            tick = other.tick;
            tube = other.tube;
            left = other.left;
            coins = other.coins;
            gain = other.gain;
            stood.becomeAs(other.stood);
            plan.becomeAs(other.plan);
            book.becomeAs(other.book);
        }
    }

    /** What would come of how all is: it changes nothing of the state. */
    private static final class Search {
        private static final int TOO_MANY = MOST_THINGS * MOST_SOON + 1;

        private final State state;
        // By ticks from now: which things can be seen at each cell (bits), and what each thing is worth.
        private final int[] seen;
        private final int[] worths;
        private final int[] row;
        private final int[] bestRow;
        private int most;
        private final int[] order;
        private final int[] bestOrder;
        private int orderSize;
        private int fewest;

        Search(State state) {
            this.state = state;
            seen = new int[(MOST_PLAN + 1) * CELLS];
            worths = new int[(MOST_PLAN + 1) * MOST_THINGS];
            row = new int[MOST_LOOK];
            bestRow = new int[MOST_LOOK];
            order = new int[MOST_THINGS];
            bestOrder = new int[MOST_THINGS];
        }

        /** Notes what can be seen where on each of the next n ticks, were the haze so. */
        void foresee(int n, int haze) {
            Arrays.fill(seen, 0);
            for (int i = 0; i < state.thingCount; i++) {
                Thing one = state.find(i);
                for (int ahead = 1; one != null && !state.isHad(i) && ahead <= n; ahead++) {
                    int tick = state.tick + ahead;
                    int cell = state.cellOn(one, tick);
                    int seenAt = ahead * CELLS + cell;
                    int worthAt = ahead * MOST_THINGS + i;
                    if (!one.isDim(cell, haze) && isIn(seen, seenAt) && isIn(worths, worthAt)) {
                        seen[seenAt] |= 1 << i;
                        worths[worthAt] = state.worthOn(one, cell, tick);
                    }
                }
            }
        }

        /** Which things, as bits, the tube at that cell sees so many ticks from now. */
        int seenAt(int ahead, int cell) {
            int at = ahead * CELLS + cell;
            return isIn(seen, at) ? seen[at] : 0;
        }

        int gainAt(int ahead, int cell, int had) {
            int fresh = seenAt(ahead, cell) & ~had;
            int gained = 0;
            for (int i = 0; fresh != 0 && i < MOST_THINGS; i++) {
                int at = ahead * MOST_THINGS + i;
                if ((fresh >> i & 1) == 1 && isIn(worths, at)) {
                    gained += worths[at];
                }
            }
            return gained;
        }

        /** The most that n doings gain from that cell on, by what was foreseen; the first such row is kept. */
        int mostFrom(int cell, int n) {
            most = -1;
            tryDoings(0, n, cell, state.had, 0);
            return most;
        }

        private void tryDoings(int depth, int n, int cell, int had, int gained) {
            if (depth >= n || !isIn(row, depth)) {
                if (gained > most) {
                    most = gained;
                    copy(row, bestRow);
                }
                return;
            }
            int ahead = depth + 1;
            for (int doing = 0; doing < DOINGS; doing++) {
                row[depth] = doing;
                int next = moved(cell, doing);
                int more = gainAt(ahead, next, had);
                tryDoings(ahead, n, next, had | seenAt(ahead, next), gained + more);
            }
        }

        int bestDoing(int k) {
            return isIn(bestRow, k) ? bestRow[k] : NOT_THERE;
        }

        /** The fewest ticks by which the tube can point at one, if so many ticks ahead it points at that cell. */
        int soonFrom(Thing one, int cell, int ahead) {
            for (int n = 1; n <= MOST_SOON; n++) {
                int place = state.cellOn(one, state.tick + ahead + n);
                if (far(cell, place) <= n && !one.isDim(place, state.view.haze)) {
                    return n;
                }
            }
            return NOT_THERE;
        }

        /** By how many ticks all that are not had can be seen in the best order, which is kept; -5: not by any. */
        int fewestTicks() {
            fewest = TOO_MANY;
            orderSize = 0;
            int waiting = (1 << state.thingCount) - 1 & ~state.had;
            tryThings(0, waiting, state.tube, 0);
            return fewest < TOO_MANY ? fewest : NOT_THERE;
        }

        private void tryThings(int depth, int waiting, int cell, int ticks) {
            if (waiting == 0 || !isIn(order, depth)) {
                fewest = ticks;
                orderSize = depth;
                copy(order, bestOrder);
                return;
            }
            for (int i = 0; i < state.thingCount; i++) {
                Thing one = state.find(i);
                if (one != null && (waiting >> i & 1) == 1) {
                    int soon = soonFrom(one, cell, ticks);
                    int then = ticks + soon;
                    // An order that is no better than the best one ahead of it is not looked at further.
                    if (soon > 0 && then < fewest) {
                        order[depth] = i;
                        tryThings(depth + 1, waiting & ~(1 << i), state.cellOn(one, state.tick + then), then);
                    }
                }
            }
        }

        int bestThing(int k) {
            return k < orderSize && isIn(bestOrder, k) ? bestOrder[k] : NOT_THERE;
        }
    }
}
