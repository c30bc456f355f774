/** The sentences of promises 1 to 14: views, things, ticks. */
final class PromiseSentences {
    private static final int NONE = -1, BAD = -2, STATE = -3, FULL = -4, BELOW = -999999;
    private static final int LEAST = Integer.MIN_VALUE, MOST = Integer.MAX_VALUE;

    private final Check check;
    private final Quotes doc;

    PromiseSentences(Check check, Quotes doc) {
        this.check = check;
        this.doc = doc;
    }

    void run() {
        aNewObject();
        feed();
        view();
        viewIsFull();
        thing();
        of();
        then();
        row();
        move();
        had();
        point();
        told();
        pay();
        tick();
        pass();
    }

    private void due(String what, long got, long want) {
        check.due(what, got, want);
    }

    private static CoinTelescope of(int kind, int v, int cell) {
        CoinTelescope x = new CoinTelescope();
        x.thing(kind, v, cell);
        return x;
    }

    private void aNewObject() {
        doc.promise(1);
        doc.says("No THINGS, no VIEW.");
        CoinTelescope x = new CoinTelescope();
        for (int what = 0; what <= 6; what++) {
            due("count " + what, x.count(what), 0);
        }
        due("no first thing", x.of(0, 0), NONE);
        due("nothing to be seen", x.look(5, -1), 0);
        due("nothing to be had", x.order(-1), 0);
        due("no image", x.undo(), STATE);
        int[] told = {0, 8, 0, 0, 0, 0, 0, 0, 0, 0};
        for (int what = 0; what < told.length; what++) {
            due("told " + what, x.told(what), told[what]);
        }
        due("the first view", Check.view(x, "coin 1"), 0);
        due("another one is new, too", new CoinTelescope().count(1), 0);
    }

    private void feed() {
        doc.promise(2);
        doc.says("A sign (0 .. 127) comes behind THE TAPE's: how many it has.");
        CoinTelescope x = new CoinTelescope();
        due("0", x.feed(0), 1);
        due("127", x.feed(127), 2);
        due("a 0 is read as it is", x.view(), -10);
        due("from 1 on", x.feed('h'), 1);
        Check.feed(x, "aze 7");
        due("one behind the other", x.view(), 0);
        due("haze", x.told(3), 7);
        Check.feed(x, "haze 7");
        due("127 at the end", x.feed(127), 7);
        due("is a fault there", x.view(), -16);
        doc.says("BAD;");
        for (int sign : new int[] {-1, 128, 256, 'c' + 128, 'c' + 256, LEAST, MOST}) {
            due("sign " + sign, x.feed(sign), BAD);
        }
        due("none came", x.count(5), 0);
        doc.says("FULL.");
        for (int i = 1; i <= 100; i++) {
            due("sign nr " + i, x.feed(i), i);
        }
        due("sign nr 101", x.feed('x'), FULL);
        due("sign nr 102", x.feed(127), FULL);
        due("BAD ahead of it", x.feed(128), BAD);
        due("signs", x.count(5), 100);
    }

    private void view() {
        doc.promise(3);
        doc.says("THE TAPE, which is empty then");
        CoinTelescope x = new CoinTelescope();
        Check.feed(x, "coin 4");
        x.view();
        due("signs", x.count(5), 0);
        due("the next sign is the first", x.feed('h'), 1);
        doc.says("(by a FAULT, too),");
        due("a fault", x.view(), -11);
        due("signs", x.count(5), 0);
        due("the next text is a view of its own", Check.view(x, "coin 6"), 1);
        doc.says("is a VIEW, and holds: its number;");
        due("coin", x.told(1), 6);
        due("the third", Check.view(x, "adds 6"), 2);
        due("adds", x.told(2), 6);
        due("coin of the third", x.told(1), 8);
        doc.says("-10 less the FAULT (the one that held holds).");
        due("at 0", Check.view(x, "x"), -10);
        due("an empty tape", x.view(), -10);
        due("at the end", Check.view(x, "coin "), -15);
        due("behind a clause", Check.view(x, "adds 9;haze 3;c"), -25);
        due("at 100", Check.view(x, "dear 1 " + "p<9|".repeat(23) + "!"), -110);
        due("adds still", x.told(2), 6);
        due("haze still", x.told(3), 0);
        due("views", x.count(1), 3);
        due("the fourth", Check.view(x, "haze 1"), 3);
    }

    private void viewIsFull() {
        doc.says("FULL (ahead of all; THE TAPE stays).");
        CoinTelescope x = new CoinTelescope();
        for (int i = 0; i < 5; i++) {
            due("view", Check.view(x, "coin " + (i + 1)), i);
        }
        due("an empty tape", x.view(), FULL);
        due("a fault", Check.view(x, "xy"), FULL);
        due("signs", x.count(5), 2);
        due("again", x.view(), FULL);
        due("behind them", x.feed('z'), 3);
        due("the one that held", x.told(1), 5);
        due("views", x.count(1), 5);
    }

    private void thing() {
        doc.promise(4);
        doc.says("One of THINGS: its number.");
        CoinTelescope x = new CoinTelescope();
        due("the first", x.thing(6, 9, 23), 0);
        due("the second", x.thing(0, 0, 0), 1);
        doc.says("NONE: kind, cell;");
        for (int[] bad : new int[][] {{-1, 0, 0}, {7, 0, 0}, {0, 0, -1}, {0, 0, 24}, {LEAST, 0, 0}, {MOST, 0, 0},
            {0, 0, LEAST}, {0, 0, MOST}, {7, 10, 0}, {0, -1, 24}}) {
            due("kind " + bad[0] + " v " + bad[1] + " cell " + bad[2], x.thing(bad[0], bad[1], bad[2]), NONE);
        }
        doc.says("BAD: v;");
        for (int v : new int[] {-1, 10, LEAST, MOST}) {
            due("v " + v, x.thing(0, v, 0), BAD);
        }
        due("things", x.count(0), 2);
        doc.says("FULL: 6.");
        for (int i = 2; i < 6; i++) {
            due("one more", x.thing(i, i, i), i);
        }
        due("a seventh", x.thing(1, 1, 1), FULL);
        due("things", x.count(0), 6);
        due("the sixth is as it was", x.of(5, 0), 5);
    }

    private void of() {
        doc.promise(5);
        doc.says("Of a THING what 0 KIND, 1 v, 2 the CELL it comes from, 3 whether it is HAD.");
        for (int kind = 0; kind <= 6; kind++) {
            CoinTelescope x = of(0, 0, 0);
            x.thing(kind, 9 - kind, 17 + kind);
            due("kind", x.of(1, 0), kind);
            due("v", x.of(1, 1), 9 - kind);
            x.pass(kind);
            due("cell, whatever tick it is", x.of(1, 2), 17 + kind);
            due("not had", x.of(1, 3), 0);
            x.had(1, true);
            due("had", x.of(1, 3), 1);
            due("the other not", x.of(0, 3), 0);
        }
        doc.says("NONE.");
        CoinTelescope x = of(0, 5, 5);
        for (int bad : new int[] {-1, 1, 6, LEAST, MOST}) {
            due("thing " + bad, x.of(bad, 0), NONE);
        }
        for (int bad : new int[] {-1, 4, LEAST, MOST}) {
            due("what " + bad, x.of(0, bad), NONE);
        }
    }

    private void then() {
        doc.promise(6);
        doc.says("Of a THING n TICKS (0 .. 60) from now what 0 where it IS AT, 1 whether it is DIM, 2 BASE, 3 WORTH.");
        CoinTelescope x = Check.withView("haze 1;dear 7 c=2;dull 9 t=3");
        x.thing(1, 0, 1);
        x.thing(3, 1, 2);
        due("now", x.then(0, 0, 0), 1);
        due("in 1", x.then(0, 1, 0), 2);
        due("in 60", x.then(0, 60, 0), 1);
        due("dim now", x.then(1, 0, 1), 1);
        due("dim in 3", x.then(1, 3, 1), 1);
        due("not in 4", x.then(1, 4, 1), 0);
        due("not in 21", x.then(1, 21, 1), 0);
        due("dim in 22", x.then(1, 22, 1), 1);
        due("base in 1", x.then(0, 1, 2), 7);
        due("base in 3", x.then(0, 3, 2), -9);
        due("base in 53", x.then(0, 53, 2), -9);
        due("worth in 1", x.then(0, 1, 3), 12);
        due("worth in 3", x.then(0, 3, 3), 0);
        due("worth in 60", x.then(0, 60, 3), 5);
        x.pass(60);
        due("60 later", x.then(0, 1, 0), 2);
        due("had or not", x.had(0, true) + x.then(0, 1, 3), 12);
        doc.says("-999999: NONE, or n is not as told.");
        for (int n : new int[] {-1, 61, LEAST, MOST}) {
            due("n " + n, x.then(0, n, 0), BELOW);
        }
        for (int thing : new int[] {-1, 2, LEAST, MOST}) {
            due("thing " + thing, x.then(thing, 0, 0), BELOW);
        }
        for (int what : new int[] {-1, 4, LEAST, MOST}) {
            due("what " + what, x.then(0, 0, what), BELOW);
        }
    }

    private void row() {
        doc.promise(7);
        doc.says("The ROW of a TOLD one becomes n (0 .. 9) for TICKS modulo 4 being k: what it was.");
        CoinTelescope x = of(6, 0, 5);
        x.thing(6, 0, 5);
        x.thing(3, 0, 5);
        due("k 0", x.row(0, 0, 9), 0);
        due("k 3", x.row(0, 3, 4), 0);
        due("k 3 again", x.row(0, 3, 5), 4);
        due("k 0 again", x.row(0, 0, 9), 9);
        int[] due = {14, 5, 5, 10, 14, 5, 5, 10};
        for (int n = 0; n < due.length; n++) {
            due("in " + n, x.then(0, n, 0), due[n]);
            due("the other in " + n, x.then(1, n, 0), 5);
        }
        x.pass(3);
        due("on tick 3", x.then(0, 0, 0), 10);
        doc.says("NONE: thing, k;");
        for (int bad : new int[] {-1, 3, LEAST, MOST}) {
            due("thing " + bad, x.row(bad, 0, 1), NONE);
        }
        for (int bad : new int[] {-1, 4, LEAST, MOST}) {
            due("k " + bad, x.row(0, bad, 1), NONE);
            due("k " + bad + ", of another kind", x.row(2, bad, 10), NONE);
        }
        doc.says("BAD;");
        for (int bad : new int[] {-1, 10, LEAST, MOST}) {
            due("n " + bad, x.row(0, 1, bad), BAD);
            due("n " + bad + ", of another kind", x.row(2, 1, bad), BAD);
        }
        due("it is as it was", x.row(0, 1, 0), 0);
        doc.says("STATE: another KIND.");
        for (int kind = 0; kind <= 5; kind++) {
            CoinTelescope other = of(kind, 0, 0);
            due("kind " + kind, other.row(0, 0, 1), STATE);
            due("it stays", other.then(0, 0, 0), 0);
        }
    }

    private void move() {
        doc.promise(8);
        doc.says("A THING comes from a CELL: from where it came.");
        CoinTelescope x = of(1, 0, 3);
        x.thing(0, 0, 4);
        x.had(0, true);
        x.pass(1);
        due("to 23", x.move(0, 23), 3);
        due("to 0", x.move(0, 0), 23);
        due("to 0 again", x.move(0, 0), 0);
        due("it is at", x.then(0, 0, 0), 1);
        due("it is had", x.of(0, 3), 1);
        due("the other", x.of(1, 2), 4);
        doc.says("NONE.");
        for (int bad : new int[] {-1, 2, LEAST, MOST}) {
            due("thing " + bad, x.move(bad, 5), NONE);
        }
        for (int bad : new int[] {-1, 24, LEAST, MOST}) {
            due("cell " + bad, x.move(0, bad), NONE);
        }
        due("it stays", x.of(0, 2), 0);
    }

    private void had() {
        doc.promise(9);
        doc.says("A THING is HAD, or not: whether it was.");
        CoinTelescope x = of(0, 0, 0);
        for (int i = 1; i < 6; i++) {
            x.thing(0, 0, 0);
        }
        due("had", x.had(0, true), 0);
        due("again", x.had(0, true), 1);
        due("the last", x.had(5, true), 0);
        due("bits", x.told(8), 33);
        due("not", x.had(0, false), 1);
        due("not again", x.had(0, false), 0);
        due("bits then", x.told(8), 32);
        due("nothing is gained", x.told(7), 0);
        doc.says("NONE.");
        for (int bad : new int[] {-1, 6, 31, 32, 37, LEAST, MOST}) {
            due("thing " + bad, x.had(bad, true), NONE);
            due("thing " + bad + " not", x.had(bad, false), NONE);
        }
        due("bits still", x.told(8), 32);
    }

    private void point() {
        doc.promise(10);
        doc.says("THE TUBE points at a CELL: where it pointed.");
        CoinTelescope x = of(0, 0, 23);
        due("at 23", x.point(23), 0);
        due("at 23 again", x.point(23), 23);
        due("at 0", x.point(0), 23);
        due("told", x.told(4), 0);
        due("nothing is seen by it", x.told(8), 0);
        due("no tick", x.told(0), 0);
        doc.says("NONE.");
        for (int bad : new int[] {-1, 24, LEAST, MOST}) {
            due("cell " + bad, x.point(bad), NONE);
        }
        due("told still", x.told(4), 0);
    }

    private void told() {
        doc.promise(11);
        doc.says("What 0 TICK, 1 COIN, 2 ADDS, 3 HAZE, 4 where THE TUBE points, 5 LEFT, 6 COINS, 7 GAIN, "
            + "8 which are HAD (bits), 9 LOST.");
        CoinTelescope x = Check.withView("coin 60;adds 2;haze 3;dear 3 p=1");
        x.thing(0, 0, 0);
        x.thing(5, 4, 17);
        x.pay();
        x.pay();
        x.pass(6);
        x.point(16);
        x.tick(2);
        int[] due = {7, 60, 2, 3, 17, 92, 2, 3 + 4, 2, 53};
        for (int what = 0; what < due.length; what++) {
            due("told " + what, x.told(what), due[what]);
        }
        for (int i = 0; i < 6; i++) {
            x.thing(0, 0, 0);
            x.had(i, true);
        }
        due("all six", x.told(8), 63);
        doc.says("NONE.");
        for (int bad : new int[] {-1, 10, LEAST, MOST}) {
            due("what " + bad, x.told(bad), NONE);
        }
    }

    /** The refusal takes more calls than the document speaks of: 9999 coins. */
    private void pay() {
        doc.promise(12);
        doc.says("A coin is paid: LEFT.");
        CoinTelescope x = Check.withView("coin 7;adds 1");
        due("7", x.pay(), 7);
        due("14", x.pay(), 14);
        due("told", x.told(5), 14);
        due("coins", x.told(6), 2);
        due("no tick", x.told(0), 0);
        doc.says("STATE: COINS is 9999.");
        for (int i = 2; i < 9998; i++) {
            x.pay();
        }
        due("9998 coins", x.told(6), 9998);
        x.pass(9);
        due("one more", x.pay(), 97);
        due("9999 coins", x.told(6), 9999);
        due("none more", x.pay(), STATE);
        due("left", x.told(5), 97);
    }

    private void tick() {
        doc.promise(13);
        doc.says("A TICK goes with a DOING: how much is GAINED.");
        CoinTelescope x = of(0, 0, 1);
        x.thing(2, 0, 1);
        x.thing(3, 0, 1);
        x.pay();
        due("nothing", x.tick(3), 0);
        due("nothing, again", x.tick(1), 0);
        due("4, 2 and 0", x.tick(2), 6);
        due("no more", x.tick(0), 0);
        due("left", x.tick(4), 0);
        due("tick", x.told(0), 5);
        due("left", x.told(5), 3);
        due("had", x.told(8), 7);
        doc.says("NONE;");
        for (int bad : new int[] {-1, 5, LEAST, MOST}) {
            due("doing " + bad, x.tick(bad), NONE);
            due("doing " + bad + ", nothing left", new CoinTelescope().tick(bad), NONE);
        }
        due("no tick by it", x.told(0), 5);
        doc.says("STATE: LEFT is 0, or TICK 9999.");
        for (int i = 0; i < 3; i++) {
            due("the last ones", x.tick(0), 0);
        }
        due("LEFT is 0", x.tick(0), STATE);
        due("tick", x.told(0), 8);
        Telescopes.pass(x, 9998 - 8);
        x.pay();
        due("TICK 9998", x.tick(0), 0);
        due("TICK 9999", x.tick(0), STATE);
        due("LEFT is 7", x.told(5), 7);
    }

    private void pass() {
        doc.promise(14);
        doc.says("n TICKS (0 .. 60) go black: LEFT.");
        CoinTelescope x = Check.withView("coin 99");
        x.thing(0, 0, 0);
        x.pay();
        due("0", x.pass(0), 99);
        due("1", x.pass(1), 98);
        due("60", x.pass(60), 38);
        due("38", x.pass(38), 0);
        due("more than are left", x.pass(60), 0);
        due("tick", x.told(0), 159);
        due("nothing is seen", x.told(8), 0);
        doc.says("BAD;");
        for (int bad : new int[] {-1, 61, LEAST, MOST}) {
            due("n " + bad, x.pass(bad), BAD);
        }
        due("tick still", x.told(0), 159);
        doc.says("STATE: TICK would be above 9999.");
        Telescopes.pass(x, 9990 - 159);
        x.pay();
        due("10 from 9990", x.pass(10), STATE);
        due("left stays", x.told(5), 99);
        due("9 from 9990", x.pass(9), 90);
        due("9999", x.told(0), 9999);
        due("1 from 9999", x.pass(1), STATE);
        due("0 from 9999", x.pass(0), 90);
    }
}
