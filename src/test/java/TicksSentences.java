/** The sentences of "Terms", part 1, on where things are, what they are worth, and on ticks and coins. */
final class TicksSentences {
    private final Check check;
    private final Quotes doc;

    TicksSentences(Check check, Quotes doc) {
        this.check = check;
        this.doc = doc;
    }

    void run() {
        doc.part("IS AT of one", "==== 2");
        still();
        boats();
        birds();
        ships();
        toldOnes();
        dim();
        base();
        worths();
        worthsBelowZero();
        doings();
        ticks();
        gains();
        black();
        coins();
    }

    private void due(String what, long got, long want) {
        check.due(what, got, want);
    }

    /** Where a thing is from a tick on, one tick after the other. */
    private void isAt(String what, CoinTelescope x, int thing, int... cells) {
        for (int n = 0; n < cells.length; n++) {
            due(what + " in " + n, x.then(thing, n, 0), cells[n]);
        }
    }

    private static CoinTelescope of(int kind, int v, int cell) {
        CoinTelescope x = new CoinTelescope();
        x.thing(kind, v, cell);
        return x;
    }

    private void still() {
        doc.says("IS AT of one on a TICK (a CELL):");
        CoinTelescope x = of(1, 0, 0);
        x.pass(2);
        isAt("on tick 2 and on", x, 0, 2, 3);
        doc.says("THING, HOUSE, SPIRE: where it comes from.");
        for (int kind : new int[] {0, 2, 5}) {
            isAt("kind " + kind, of(kind, 9, 0), 0, 0, 0, 0, 0, 0, 0, 0);
            isAt("kind " + kind, of(kind, 9, 23), 0, 23, 23, 23, 23, 23, 23, 23);
        }
    }

    private void boats() {
        doc.says("BOAT: in its ROW, as many COLUMNS further as there are TICKS (behind 5 comes 0).");
        isAt("from 0", of(1, 9, 0), 0, 0, 1, 2, 3, 4, 5, 0, 1);
        isAt("from 5", of(1, 9, 5), 0, 5, 0, 1);
        isAt("from 6", of(1, 9, 6), 0, 6, 7, 8, 9, 10, 11, 6);
        isAt("from 23", of(1, 0, 23), 0, 23, 18, 19, 20, 21, 22, 23, 18);
        CoinTelescope x = of(1, 0, 16);
        Telescopes.pass(x, 9999);
        isAt("on tick 9999", x, 0, 12 + (4 + 9999) % 6, 12 + (4 + 10000) % 6);
    }

    private void birds() {
        doc.says("BIRD: the CELL v times TICK further (behind 23 comes 0).");
        isAt("of 0", of(3, 0, 23), 0, 23, 23, 23);
        isAt("of 1", of(3, 1, 22), 0, 22, 23, 0, 1);
        isAt("of 9", of(3, 9, 5), 0, 5, 14, 23, 8, 17, 2, 11, 20, 5);
        CoinTelescope x = of(3, 9, 23);
        Telescopes.pass(x, 9999);
        isAt("on tick 9999", x, 0, (23 + 9 * 9999) % 24, (23 + 9 * 10000) % 24);
        due("60 later", x.then(0, 60, 0), (23 + 9 * 10059) % 24);
    }

    private void ships() {
        doc.says("SHIP: as BOAT, but by the half (cut) of TICK.");
        isAt("from 4", of(4, 9, 4), 0, 4, 4, 5, 5, 0, 0, 1, 1, 2);
        isAt("from 23", of(4, 9, 23), 0, 23, 23, 18, 18, 19);
        CoinTelescope x = of(4, 0, 0);
        x.pass(1);
        isAt("of TICK, not of the ticks ahead", x, 0, 0, 1, 1, 2);
    }

    private void toldOnes() {
        doc.says("TOLD: as BIRD, and its ROW at TICK modulo 4 more CELLS further (likewise).");
        CoinTelescope x = of(6, 1, 14);
        isAt("a row of zeros", x, 0, 14, 15, 16);
        int[] row = {9, 8, 1, 0};
        for (int k = 0; k < 4; k++) {
            x.row(0, k, row[k]);
        }
        isAt("a row", x, 0, 23, 23, 17, 17, 3, 3, 21, 21, 7);
        x.pass(2);
        isAt("from tick 2 on", x, 0, 17, 17, 3);
        CoinTelescope around = of(6, 9, 23);
        around.row(0, 0, 9);
        around.row(0, 1, 9);
        isAt("behind 23 comes 0", around, 0, 8, (23 + 9 + 9) % 24, 17);
    }

    private void dim() {
        doc.says("DIM of one on a TICK: whether the ROW where it is then is less than HAZE; SPIRE: never.");
        for (int haze = 0; haze <= 5; haze++) {
            for (int cell : new int[] {0, 5, 6, 11, 12, 17, 18, 23}) {
                CoinTelescope x = Check.withView("haze " + haze);
                x.thing(2, 0, cell);
                x.thing(5, 0, cell);
                due("house at " + cell + ", haze " + haze, x.then(0, 0, 1), cell / 6 < haze ? 1 : 0);
                due("spire at " + cell + ", haze " + haze, x.then(1, 0, 1), 0);
            }
        }
        CoinTelescope x = Check.withView("haze 99");
        x.thing(3, 6, 12);
        x.thing(5, 6, 0);
        due("haze 99", x.then(0, 0, 1), 1);
        due("spire, haze 99", x.then(1, 0, 1), 0);
        Check.view(x, "haze 3");
        int[] dim = {1, 0, 1, 1, 1};
        for (int n = 0; n < dim.length; n++) {
            due("where it is in " + n, x.then(0, n, 1), dim[n]);
        }
    }

    private void base() {
        doc.says("BASE of one on a TICK: the n of all dear whose E holds, less those of all dull, together "
            + "(may be below 0).");
        CoinTelescope x = Check.withView("dear 5 p<9;dear 7 c=0;dull 9 p<9;dull 99 c=2;dull 3 t=3");
        x.thing(1, 0, 0);
        int[] due = {3, -4, -103, -7, -4};
        for (int n = 0; n < due.length; n++) {
            due("in " + n, x.then(0, n, 2), due[n]);
        }
        CoinTelescope none = of(0, 0, 0);
        due("without a view", none.then(0, 0, 2), 0);
        CoinTelescope zero = Check.withView("dear 4 p=0;dull 4 p=0;dear 0 p=0;dull 0 p=0");
        zero.thing(0, 0, 0);
        due("0 together", zero.then(0, 0, 2), 0);
        due("the most", Telescopes.dear().then(0, 0, 2), 792);
        CoinTelescope least = Check.withView("dull 99 p<9;".repeat(7) + "dull 99 p<9");
        least.thing(0, 0, 0);
        due("the least", least.then(0, 0, 2), -792);
    }

    /** The worth of a kind with such a base, by a dear (or dull) one that holds. */
    private void worth(int kind, int v, int cell, int base, int due) {
        CoinTelescope x = Check.withView((base < 0 ? "dull " : "dear ") + Math.abs(base) + " p=0");
        x.thing(kind, v, cell);
        due("base", x.then(0, 0, 2), base);
        due("worth of kind " + kind + " v " + v + " at " + cell + " by " + base, x.then(0, 0, 3), due);
    }

    private void worths() {
        doc.says("THING: 4, and BASE.");
        worth(0, 9, 0, 0, 4);
        worth(0, 9, 1, 99, 103);
        worth(0, 9, 1, -3, 1);
        doc.says("BOAT: 5, and BASE.");
        worth(1, 9, 0, 0, 5);
        worth(1, 9, 1, 99, 104);
        worth(1, 9, 1, -4, 1);
        doc.says("HOUSE: the half (cut toward 0) of what it is as THING.");
        worth(2, 9, 0, 0, 2);
        worth(2, 9, 0, 1, 2);
        worth(2, 9, 0, 2, 3);
        worth(2, 9, 0, -2, 1);
        worth(2, 9, 0, -3, 0);
        worth(2, 9, 0, -5, 0);
        doc.says("BIRD: BASE, and v.");
        worth(3, 0, 0, 0, 0);
        worth(3, 9, 0, 0, 9);
        worth(3, 9, 0, 99, 108);
        worth(3, 9, 0, -8, 1);
        doc.says("SHIP: as BOAT; twice that, if it is in COLUMN 0 then.");
        for (int cell : new int[] {0, 6, 12, 18}) {
            worth(4, 9, cell, 3, 16);
            worth(4, 9, cell + 1, 3, 8);
            worth(4, 9, cell + 5, 3, 8);
        }
        CoinTelescope x = of(4, 0, 11);
        int[] due = {5, 5, 10, 10, 5};
        for (int n = 0; n < due.length; n++) {
            due("in column 0 then, in " + n, x.then(0, n, 3), due[n]);
        }
        doc.says("SPIRE: as HOUSE, and v.");
        worth(5, 0, 0, 0, 2);
        worth(5, 9, 0, 1, 11);
        worth(5, 9, 0, 99, 60);
        doc.says("TOLD: as BIRD, and 1.");
        worth(6, 0, 0, 0, 1);
        worth(6, 9, 0, 99, 109);
        worth(6, 9, 0, -9, 1);
    }

    private void worthsBelowZero() {
        doc.says("WORTH of these (0 at least in the end):");
        worth(0, 9, 0, -4, 0);
        worth(0, 9, 0, -5, 0);
        worth(0, 9, 0, -99, 0);
        worth(1, 9, 0, -5, 0);
        worth(1, 9, 0, -6, 0);
        worth(2, 9, 0, -6, 0);
        worth(3, 9, 0, -9, 0);
        worth(3, 9, 0, -10, 0);
        worth(4, 9, 0, -5, 0);
        worth(4, 9, 0, -6, 0);
        worth(4, 9, 1, -6, 0);
        // In the end, not on the way: half of -1 is 0 (cut toward 0), half of -2 and of -3 is -1, and v comes to that.
        worth(5, 1, 0, -5, 1);
        worth(5, 1, 0, -6, 0);
        worth(5, 2, 0, -7, 1);
        worth(5, 9, 0, -8, 7);
        worth(5, 9, 0, -22, 0);
        worth(5, 9, 0, -99, 0);
        worth(6, 9, 0, -10, 0);
        worth(6, 9, 0, -11, 0);
        worth(6, 0, 0, -1, 0);
        worth(6, 0, 0, -2, 0);
    }

    private void doings() {
        doc.says("DOINGS are 0 to hold still, 1 up (ROW 1 less), 2 right (COLUMN 1 more), 3 down, 4 left; "
            + "beyond the view: hold still.");
        int[][] due = {
            {0, 0, 1, 6, 0}, {5, 5, 5, 11, 4}, {18, 12, 19, 18, 18}, {23, 17, 23, 23, 22},
            {2, 2, 3, 8, 1}, {6, 0, 7, 12, 6}, {11, 5, 11, 17, 10}, {20, 14, 21, 20, 19}, {8, 2, 9, 14, 7},
        };
        int[] from = {0, 5, 18, 23, 2, 6, 11, 20, 8};
        for (int i = 0; i < from.length; i++) {
            for (int doing = 0; doing < 5; doing++) {
                CoinTelescope x = new CoinTelescope();
                x.pay();
                x.point(from[i]);
                due("tick", x.tick(doing), 0);
                due("from " + from[i] + " by " + doing, x.told(4), due[i][doing]);
            }
        }
        CoinTelescope x = new CoinTelescope();
        x.pay();
        due("no doing 5", x.tick(5), -1);
        due("no doing -1", x.tick(-1), -1);
        due("where it was", x.told(4), 0);
    }

    private void ticks() {
        doc.says("A TICK goes with a DOING: THE TUBE points where that brings it; all THINGS that are there "
            + "on TICK and 1, not DIM, not HAD, are HAD then:");
        CoinTelescope x = Check.withView("haze 1");
        x.thing(1, 0, 6);
        x.thing(1, 0, 7);
        x.thing(0, 0, 7);
        x.thing(5, 0, 1);
        x.thing(0, 0, 1);
        x.thing(2, 0, 7);
        x.had(5, true);
        x.pay();
        x.point(1);
        due("the boat that comes and the thing", x.tick(3), 5 + 4);
        due("had", x.told(8), 1 + 4 + 32);
        due("the boat that went there now is not", x.of(1, 3), 0);
        due("none twice", x.tick(0), 0);
        due("the spire, the dim one not", x.tick(1), 2);
        due("had with it", x.told(8), 1 + 4 + 8 + 32);
        due("tube", x.told(4), 1);
        x.point(0);
        due("up: it holds still, and there is none", x.tick(1), 0);
        CoinTelescope edge = of(0, 0, 5);
        edge.point(5);
        edge.pay();
        due("beyond the view: it holds still, and there it is", edge.tick(2), 4);
        CoinTelescope here = of(1, 0, 0);
        here.pay();
        due("where it is on TICK itself", here.tick(0), 0);
        here.point(1);
        due("where it is on TICK and 1", here.tick(2), 5);
    }

    private void gains() {
        doc.says("GAIN is the WORTH of each by that TICK more (9999999 at most; LEFT as it is ahead); "
            + "LEFT is 1 less; TICK is 1 more.");
        CoinTelescope x = Check.withView("coin 3;dear 10 l=3;dear 20 l=2;dear 40 t=1;dear 5 c=0");
        x.thing(0, 0, 0);
        x.thing(2, 0, 0);
        x.thing(3, 1, 23);
        x.pay();
        due("by LEFT ahead, on the TICK behind", x.tick(0), 59 + 29 + 56);
        due("gain", x.told(7), 144);
        due("left", x.told(5), 2);
        due("tick", x.told(0), 1);
        x.had(1, false);
        due("by LEFT ahead, again", x.tick(0), 14);
        due("gain is so much more", x.told(7), 158);
        due("left", x.told(5), 1);
        due("tick", x.told(0), 2);
        due("nothing more", x.tick(0), 0);
        due("gain stays", x.told(7), 158);
        due("left 0", x.told(5), 0);
        due("tick 3", x.told(0), 3);
        CoinTelescope none = Check.withView("dull 99 p=0");
        none.thing(0, 0, 0);
        none.pay();
        due("worth nothing", none.tick(0), 0);
        due("but had", none.told(8), 1);
        // More calls than the document speaks of: no run of 512 gains so much.
        CoinTelescope most = Telescopes.dear();
        while (most.told(7) < 9999999 - 4776) {
            Telescopes.gain(most);
        }
        due("it is worth as much as ever", Telescopes.gain(most), 4776);
        due("9999999 at most", most.told(7), 9999999);
    }

    private void black() {
        doc.says("A TICK goes black: LEFT is 1 less (0 at least), TICK 1 more, nothing is seen.");
        CoinTelescope x = Check.withView("coin 2");
        x.thing(0, 0, 0);
        x.pay();
        due("one", x.pass(1), 1);
        due("tick 1", x.told(0), 1);
        due("another", x.pass(1), 0);
        due("and none is left", x.pass(1), 0);
        due("tick 3", x.told(0), 3);
        due("left", x.told(5), 0);
        due("nothing is had", x.told(8), 0);
        due("nothing is gained", x.told(7), 0);
        due("the tube stays", x.told(4), 0);
        x.pay();
        due("more than are left", x.pass(5), 0);
    }

    private void coins() {
        doc.says("A coin is paid: COINS is 1 more; LEFT is COIN more, if ADDS is above 0, else COIN (99 at most).");
        CoinTelescope x = new CoinTelescope();
        due("without a view", x.pay(), 8);
        due("again", x.pay(), 8);
        due("coins", x.told(6), 2);
        Check.view(x, "coin 90;adds 1");
        due("98", x.pay(), 98);
        x.pass(1);
        Check.view(x, "coin 2;adds 99");
        due("97 and 2", x.pay(), 99);
        due("99 and 2", x.pay(), 99);
        Check.view(x, "coin 2;adds 0");
        due("2, though more are left", x.pay(), 2);
        Check.view(x, "coin 0;adds 1");
        due("2 and 1", x.pay(), 3);
        due("coins", x.told(6), 7);
        CoinTelescope y = Check.withView("coin 99");
        due("99", y.pay(), 99);
        due("not twice", y.pay(), 99);
    }
}
