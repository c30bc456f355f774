/** The sentences of "Terms", part 2: what is asked, and what is told by hand. */
final class AskedSentences {
    private static final int ALL = (1 << 24) - 1;

    private final Check check;
    private final Quotes doc;

    AskedSentences(Check check, Quotes doc) {
        this.check = check;
        this.doc = doc;
    }

    void run() {
        doc.part("==== 2 All", "==== 3");
        asked();
        beyondTheLimits();
        changesNothing();
        look();
        aim();
        soon();
        order();
        orderAtTheEdges();
        lost();
        stood();
        from();
        firm();
        odds();
        mean();
        plan();
        done();
        book();
        looked();
        acts();
        bodies();
        bodiesAreFound();
        trace();
        image();
    }

    private void due(String what, long got, long want) {
        check.due(what, got, want);
    }

    private void asked() {
        doc.says("==== 2 All that follows is asked, goes on from how all is");
        CoinTelescope x = Check.withView("coin 20;haze 1");
        x.thing(1, 0, 6);
        x.thing(0, 0, 20);
        x.pay();
        x.tick(3);
        due("from tick 1, cell 6", x.look(1, -1), 0);
        due("the boat in 2", x.look(3, -1), 0);
        x.point(7);
        due("from cell 7", x.look(1, -1), 5);
        x.had(0, true);
        due("it is had", x.look(1, -1), 0);
        x.had(0, false);
        x.pass(1);
        due("from tick 2", x.look(1, -1), 0);
        Check.view(x, "haze 3;dear 30 p=1");
        due("by the newest view", x.look(5, -1), 34);
    }

    private void beyondTheLimits() {
        CoinTelescope x = Check.withView("coin 5;dear 7 t=0;dear 9 t=1");
        x.thing(3, 9, 3);
        x.thing(1, 0, 0);
        Telescopes.pass(x, 9998);
        x.pay();
        x.tick(0);
        doc.says("(TICK beyond 9999,");
        due("the last tick", x.told(0), 9999);
        int bird = (3 + 9 * 10000) % 24;
        x.point(bird);
        due("bird on 10000", x.then(0, 1, 0), bird);
        due("look", x.look(1, -1), 9 + 7);
        x.point((3 + 9 * 10001) % 24);
        due("look on 10001", x.look(2, -1), 9 + 9);
        x.point(10001 % 6);
        due("soon", x.soon(1), 1);
        x.had(0, true);
        due("order", x.order(-1), 1);
        due("aim", x.aim(1, 0), 3);
        due("aim", x.aim(1, 1), 5 + 7);
        x.stood(1, 40, (2 + 10039) % 6);
        due("from", x.from(1), 1 << 2);
        x.point(10002 % 6);
        x.plan(5);
        x.plan(5);
        x.plan(0);
        due("done", x.done(0), 5);
        due("odds", x.odds(1, 0, 0), 1);
        due("but no tick", x.tick(0), -3);
        gainNotHeld();
        leftNotLookedAt();
    }

    /** More calls than the document speaks of: no run of 512 gains so much. */
    private void gainNotHeld() {
        doc.says("GAIN not held,");
        CoinTelescope x = Telescopes.dear();
        while (x.told(7) < 9999999) {
            Telescopes.gain(x);
        }
        for (int i = 0; i < 6; i++) {
            x.had(i, false);
        }
        x.plan(0);
        due("at the most", x.told(7), 9999999);
        due("look", x.look(1, -1), 4776);
        due("aim", x.aim(1, 1), 4776);
        due("odds", x.odds(1, 4776, 1), 4);
        due("done", x.done(0), 4776);
    }

    private void leftNotLookedAt() {
        doc.says("LEFT not looked at but by E, in which it stays as it is),");
        CoinTelescope x = Check.withView("coin 2;dear 10 l=0;dear 20 l=1;dear 40 l=2");
        x.thing(0, 0, 3);
        due("none are left: look", x.look(3, -1), 14);
        due("then", x.then(0, 9, 2), 10);
        due("aim", x.aim(3, 1), 14);
        x.pay();
        due("two are left: look", x.look(3, -1), 44);
        due("look of more", x.look(5, -1), 44);
        due("then", x.then(0, 9, 2), 40);
        due("mean", x.mean(0), 44);
        for (int i = 0; i < 3; i++) {
            x.plan(2);
        }
        due("done", x.done(0), 44);
        x.pass(1);
        due("one is left: done", x.done(0), 24);
        due("look", x.look(3, -1), 24);
    }

    private void changesNothing() {
        doc.says("and changes nothing.");
        long[] once = Telescopes.answers(Telescopes.busy());
        CoinTelescope x = Telescopes.busy();
        Telescopes.answers(x);
        long[] twice = Telescopes.answers(x);
        for (int i = 0; i < once.length; i++) {
            due("answer " + i + " asked again", twice[i], once[i]);
        }
    }

    private void lookIs(String what, CoinTelescope x, int n, int most, int... row) {
        due(what, x.look(n, -1), most);
        for (int k = 0; k < 5; k++) {
            due(what + ", doing " + k, x.look(n, k), k < row.length ? row[k] : -5);
        }
    }

    private void look() {
        doc.says("LOOK of n TICKS (0 .. 5): of all rows of n DOINGS that by which most is GAINED "
            + "(of several the first as a row): how much; the k-th.");
        CoinTelescope x = new CoinTelescope();
        lookIs("of 0", x, 0, 0);
        lookIs("of nothing", x, 5, 0, 0, 0, 0, 0, 0);
        x.thing(0, 0, 5);
        lookIs("four ticks are too few", x, 4, 0, 0, 0, 0, 0);
        lookIs("five are not", x, 5, 4, 2, 2, 2, 2, 2);
        x.thing(0, 0, 12);
        x.thing(2, 0, 6);
        lookIs("two of three", x, 2, 6, 3, 3);
        lookIs("of several the first", x, 3, 6, 0, 3, 3);
        x.thing(5, 9, 0);
        lookIs("and one where it points", x, 3, 17, 0, 3, 3);
        due("k 4 of 5", x.look(5, 4), 3);
        due("k 5", x.look(5, 5), -1);
        due("k -2", x.look(5, -2), -1);
        due("n 6", x.look(6, -1), -2);
        due("n -1", x.look(-1, -1), -2);
        CoinTelescope around = new CoinTelescope();
        around.point(7);
        for (int cell : new int[] {1, 8, 13, 6}) {
            around.thing(0, 0, cell);
        }
        lookIs("up is the first of the four", around, 1, 4, 1);
        around.had(0, true);
        lookIs("right is the first of three", around, 1, 4, 2);
        around.had(1, true);
        lookIs("down is the first of two", around, 1, 4, 3);
        around.had(2, true);
        lookIs("left", around, 1, 4, 4);
        around.had(3, true);
        lookIs("none of them: hold still", around, 1, 0, 0);
        CoinTelescope boat = new CoinTelescope();
        boat.thing(1, 0, 3);
        lookIs("it waits for the boat that comes around", boat, 3, 5, 0, 0, 0);
        lookIs("and on", boat, 4, 5, 0, 0, 0, 0);
        lookIs("not so soon", boat, 2, 0, 0, 0);
        CoinTelescope once = new CoinTelescope();
        once.thing(1, 0, 0);
        once.point(1);
        lookIs("along with the boat: but once", once, 3, 5, 0, 0, 0);
        once.thing(0, 0, 13);
        lookIs("and down then", once, 3, 9, 0, 3, 3);
    }

    private void aim() {
        doc.says("AIM of n TICKS (1 .. 3): the CELL at which, did THE TUBE point there now, LOOK of n is greatest "
            + "(of several the first): which; how much.");
        CoinTelescope x = new CoinTelescope();
        due("of nothing: the first", x.aim(1, 0), 0);
        due("nothing", x.aim(1, 1), 0);
        x.thing(0, 0, 23);
        x.thing(0, 0, 22);
        for (int n = 1; n <= 3; n++) {
            due("which of " + n, x.aim(n, 0), n == 3 ? 10 : 16);
            due("how much of " + n, x.aim(n, 1), n == 1 ? 4 : 8);
        }
        x.point(23);
        due("where it points now is one of 24", x.aim(2, 0), 16);
        due("n 0", x.aim(0, 0), -2);
        due("n 4", x.aim(4, 0), -2);
        CoinTelescope last = new CoinTelescope();
        last.thing(3, 9, 14);
        last.thing(0, 0, 23);
        due("the last cell, two there at once", last.aim(1, 1), 13);
        due("up from it", last.aim(1, 0), 17);
        last.thing(0, 0, 17);
        due("all three", last.aim(2, 1), 17);
        CoinTelescope corners = new CoinTelescope();
        corners.thing(0, 0, 0);
        corners.thing(0, 0, 18);
        due("there is no cell with both in reach", corners.aim(2, 1), 4);
        due("the first with one of them", corners.aim(2, 0), 0);
    }

    private void soonIs(String view, int kind, int v, int cell, int tube, int due) {
        CoinTelescope x = Check.withView(view);
        x.thing(kind, v, cell);
        x.point(tube);
        due(view + ": soon of kind " + kind + " v " + v + " at " + cell + " from " + tube, x.soon(0), due);
    }

    private void soon() {
        doc.says("SOON of one: the fewest TICKS (1 .. 40) by which THE TUBE can point at it, not DIM "
            + "(so many TICKS from now it is no FARTHER from where THE TUBE points now than that; -5: not by then).");
        soonIs("haze 0", 0, 0, 0, 0, 1);
        soonIs("haze 0", 0, 0, 1, 0, 1);
        soonIs("haze 0", 0, 0, 2, 0, 2);
        soonIs("haze 0", 0, 0, 23, 0, 8);
        soonIs("haze 0", 1, 0, 5, 0, 1);
        soonIs("haze 0", 1, 0, 4, 0, 2);
        soonIs("haze 0", 1, 0, 1, 0, 5);
        soonIs("haze 0", 1, 0, 0, 5, 3);
        soonIs("haze 1", 0, 0, 5, 4, -5);
        soonIs("haze 1", 5, 0, 5, 4, 1);
        soonIs("haze 1", 0, 0, 6, 0, 1);
        soonIs("haze 4", 3, 1, 0, 0, -5);
        soonIs("haze 4", 5, 1, 23, 0, 8);
        soonIs("haze 3", 3, 8, 8, 0, -5);
        soonIs("haze 3", 3, 6, 0, 18, 3);
        // The longest that there is: each of its ticks outside of the haze is one too early, till it comes around.
        soonIs("haze 3", 3, 1, 16, 0, 26);
        soonIs("haze 3", 3, 1, 17, 0, 25);
        soonIs("haze 3", 3, 1, 15, 0, 3);
    }

    private void orderIs(String what, CoinTelescope x, int ticks, int... row) {
        due(what, x.order(-1), ticks);
        for (int k = 0; k < 6; k++) {
            due(what + ", thing " + k, x.order(k), k < row.length ? row[k] : -5);
        }
    }

    private void order() {
        doc.says("ORDER: of all orders of those not HAD, each in turn pointed at as SOON as can be from where THE TUBE "
            + "points at the one ahead then, that by which the last is reached by the fewest TICKS from now "
            + "(of several the first as a row):");
        CoinTelescope x = new CoinTelescope();
        x.point(2);
        x.thing(0, 0, 5);
        x.thing(0, 0, 0);
        orderIs("0 is nearer", x, 7, 1, 0);
        x.point(3);
        orderIs("5 is nearer", x, 7, 0, 1);
        x.thing(0, 0, 3);
        orderIs("of several the first", x, 7, 0, 2, 1);
        x.had(0, true);
        orderIs("one is had", x, 4, 2, 1);
        CoinTelescope six = new CoinTelescope();
        for (int i = 0; i < 6; i++) {
            six.thing(0, 0, 23);
        }
        orderIs("six in one cell take a tick each", six, 13, 0, 1, 2, 3, 4, 5);
        CoinTelescope boats = new CoinTelescope();
        boats.thing(0, 0, 2);
        boats.thing(1, 0, 5);
        boats.thing(0, 0, 1);
        orderIs("the boat first, as it comes around", boats, 3, 1, 2, 0);
        CoinTelescope gone = new CoinTelescope();
        gone.thing(1, 0, 6);
        gone.thing(0, 0, 1);
        orderIs("where the boat is then, not now", gone, 6, 1, 0);
        CoinTelescope late = Check.withView("haze 3");
        late.thing(3, 1, 16);
        late.thing(3, 1, 16);
        orderIs("the second by more than 26", late, 27, 0, 1);
        CoinTelescope rare = rareOnes();
        orderIs("one of six in each 12 ticks", rare, 68, 0, 1, 2, 3, 4, 5);
        rare.pass(1);
        orderIs("the first is too far for the first time", rare, 67, 1, 0, 2, 3, 4, 5);
        rare.had(1, true);
        orderIs("one is had", rare, 55, 2, 0, 3, 4, 5);
    }

    /** Six that come out of the haze on tick 8, 20, 32 and so on alone, each at another cell, the first at 23. */
    private static CoinTelescope rareOnes() {
        CoinTelescope x = Check.withView("haze 3");
        for (int i = 0; i < 6; i++) {
            x.thing(6, 2, 0);
            int[] row = {i == 0 ? 7 : i + 1, 6, 4, 2};
            for (int k = 0; k < 4; k++) {
                x.row(i, k, row[k]);
            }
        }
        return x;
    }

    private void orderAtTheEdges() {
        doc.says("how many (0: all are HAD; -5: in each order one is not reached); "
            + "the k-th (-5: there are fewer, or likewise).");
        CoinTelescope x = Check.withView("haze 1");
        orderIs("no things", x, 0);
        x.thing(0, 0, 23);
        x.thing(0, 0, 23);
        orderIs("two", x, 9, 0, 1);
        x.thing(0, 0, 5);
        orderIs("one is dim", x, -5);
        x.had(2, true);
        orderIs("it is had", x, 9, 0, 1);
        x.had(0, true);
        orderIs("one is left", x, 8, 1);
        x.had(1, true);
        orderIs("all are had", x, 0);
        due("no k 6", x.order(6), -1);
        due("no k -2", x.order(-2), -1);
    }

    private void lost() {
        doc.says("LOST: how many TICKS of it a coin paid now loses: LEFT, if ADDS is 0 "
            + "(COIN and LEFT, less 99, at least 0, if ADDS is above 0).");
        CoinTelescope x = Check.withView("coin 50");
        due("none are left", x.told(9), 0);
        x.pay();
        due("50 are left", x.told(9), 50);
        Check.view(x, "coin 49;adds 1");
        due("50 and 49", x.told(9), 0);
        Check.view(x, "coin 50;adds 99");
        due("50 and 50", x.told(9), 1);
        Check.view(x, "coin 99;adds 1");
        due("50 and 99", x.told(9), 50);
        x.pay();
        due("99 and 99", x.told(9), 99);
        Check.view(x, "coin 0;adds 1");
        due("99 and 1", x.told(9), 1);
        CoinTelescope y = Check.withView("coin 99;adds 1");
        due("0 and 99", y.told(9), 0);
        Check.view(y, "coin 98;adds 1");
        due("0 and 98: not below 0", y.told(9), 0);
        Check.view(y, "coin 1;adds 1");
        due("0 and 1: not below 0", y.told(9), 0);
        Check.view(y, "coin 1;adds 0");
        y.pay();
        due("one is left", y.told(9), 1);
        CoinTelescope z = Check.withView("coin 50");
        z.pay();
        Check.view(z, "coin 1");
        due("50 are left, and 1 would come", z.told(9), 50);
        Check.view(z, "coin 99;adds 0");
        due("50 are left, and 99 would come", z.told(9), 50);
    }

    private void stood() {
        doc.says("STOOD told by hand: one of THINGS, TICKS from now (0 .. 40), the CELL where it is then; 5 at most.");
        CoinTelescope x = new CoinTelescope();
        x.thing(1, 0, 0);
        due("n 40", x.stood(0, 40, 4), 1);
        due("n 0", x.stood(0, 0, 0), 2);
        due("n 41", x.stood(0, 41, 4), -2);
        due("n -1", x.stood(0, -1, 4), -2);
        due("no such thing", x.stood(1, 0, 0), -1);
        due("so it is", x.from(0), 1);
        for (int i = 3; i <= 5; i++) {
            due("row " + i, x.stood(0, i, i), i);
        }
        due("a sixth", x.stood(0, 6, 0), -4);
        due("so it is by all five", x.from(0), 1);
        due("how many", x.count(2), 5);
        CoinTelescope last = new CoinTelescope();
        last.thing(1, 0, 0);
        for (int i = 0; i < 4; i++) {
            last.stood(0, 0, 0);
        }
        last.stood(0, 0, 1);
        due("the fifth counts", last.from(0), 0);
    }

    private void from() {
        doc.says("FROM of one: those CELLS, as bits, by which, did it come from there, all of STOOD that is of it "
            + "is so.");
        CoinTelescope x = new CoinTelescope();
        x.thing(3, 1, 7);
        x.thing(0, 0, 7);
        due("none of it: all", x.from(0), ALL);
        x.stood(0, 0, 0);
        due("cell 0", x.from(0), 1);
        due("the other: all", x.from(1), ALL);
        x.stood(-1, 0, 0);
        x.stood(0, 0, 23);
        due("cell 23", x.from(0), 1 << 23);
        x.stood(0, 1, 0);
        due("cell 23, and 0 in 1", x.from(0), 1 << 23);
        x.stood(0, 1, 1);
        due("no cell", x.from(0), 0);
        due("the other: all still", x.from(1), ALL);
        CoinTelescope now = new CoinTelescope();
        now.thing(1, 0, 0);
        now.thing(4, 0, 0);
        now.thing(6, 2, 0);
        now.row(2, 3, 5);
        now.stood(0, 1, 18);
        now.stood(1, 1, 18);
        now.stood(2, 1, 1);
        due("boat, on tick 0", now.from(0), 1 << 23);
        due("ship, on tick 0", now.from(1), 1 << 18);
        due("told one, on tick 0", now.from(2), 1 << 23);
        now.pass(2);
        due("boat, on tick 2", now.from(0), 1 << 21);
        due("ship, on tick 2", now.from(1), 1 << 23);
        due("told one, on tick 2", now.from(2), 1 << (1 + 48 - 6 - 5) % 24);
    }

    private void firm() {
        doc.says("FIRM of one: how many numbers v (0 .. 9) likewise; the least (-5: none).");
        CoinTelescope x = new CoinTelescope();
        x.thing(3, 4, 2);
        x.thing(1, 4, 2);
        due("none of it: ten", x.firm(0, 0), 10);
        due("the least: 0", x.firm(0, 1), 0);
        x.stood(0, 1, 11);
        due("by 9", x.firm(0, 0), 1);
        due("9", x.firm(0, 1), 9);
        x.stood(-1, 0, 0);
        x.stood(0, 1, 2);
        due("by 0", x.firm(0, 0), 1);
        due("0", x.firm(0, 1), 0);
        x.stood(-1, 0, 0);
        x.stood(0, 8, 18);
        due("16 by eights: 2, 5, 8", x.firm(0, 0), 3);
        due("2", x.firm(0, 1), 2);
        x.stood(0, 0, 1);
        due("none", x.firm(0, 0), 0);
        due("no least", x.firm(0, 1), -5);
        due("the other: ten", x.firm(1, 0), 10);
        x.move(0, 1);
        due("from where it comes now: 17 by eights", x.firm(0, 0), 0);
        due("its own v is as it was", x.of(0, 1), 4);
    }

    private void oddsAre(String what, CoinTelescope x, int n, int q, int above, int below) {
        due(what + " above", x.odds(n, q, 0), above);
        due(what + " below", x.odds(n, q, 1), below);
    }

    private void odds() {
        doc.says("ODDS of n (0 .. 3) and q (0 .. 9999): if HAZE is any of 0 .. 3, each alike likely: "
            + "how likely LOOK of n is q or more: a fraction in lowest terms.");
        CoinTelescope x = Check.withView("haze 99;dear 96 p=3");
        x.thing(0, 0, 0);
        x.thing(0, 0, 6);
        x.thing(0, 0, 12);
        x.point(6);
        oddsAre("12 of 3", x, 3, 12, 1, 4);
        oddsAre("13 of 3", x, 3, 13, 0, 1);
        oddsAre("8 of 3", x, 3, 8, 1, 2);
        oddsAre("4 of 3", x, 3, 4, 3, 4);
        oddsAre("5 of 3", x, 3, 5, 1, 2);
        oddsAre("1 of 3", x, 3, 1, 3, 4);
        oddsAre("0 of 3", x, 3, 0, 1, 1);
        oddsAre("8 of 2", x, 2, 8, 1, 2);
        oddsAre("4 of 1", x, 1, 4, 3, 4);
        oddsAre("5 of 1", x, 1, 5, 0, 1);
        oddsAre("0 of 0", x, 0, 0, 1, 1);
        oddsAre("1 of 0", x, 0, 1, 0, 1);
        x.thing(0, 0, 18);
        x.point(12);
        oddsAre("100 of 1: seen by each haze", x, 1, 100, 1, 1);
        oddsAre("101 of 1", x, 1, 101, 0, 1);
        oddsAre("104 of 2, by haze 0 .. 2", x, 2, 104, 3, 4);
        oddsAre("108 of 3, by haze 0 and 1", x, 3, 108, 1, 2);
        oddsAre("109 of 3", x, 3, 109, 0, 1);
        oddsAre("9999", x, 3, 9999, 0, 1);
        due("q 10000", x.odds(3, 10000, 0), Long.MIN_VALUE);
        due("q -1", x.odds(3, -1, 0), Long.MIN_VALUE);
        due("n 4", x.odds(4, 0, 0), Long.MIN_VALUE);
        due("n -1", x.odds(-1, 0, 0), Long.MIN_VALUE);
        CoinTelescope top = new CoinTelescope();
        top.thing(0, 0, 0);
        oddsAre("by haze 0 alone", top, 1, 4, 1, 4);
        due("the haze itself stays", x.told(3), 99);
    }

    private void meanIs(String what, CoinTelescope x, long above, long below) {
        due(what + " above", x.mean(0), above);
        due(what + " below", x.mean(1), below);
    }

    private void mean() {
        doc.says("MEAN: WORTH of all that are not HAD, this TICK, together, by how many they are: "
            + "a fraction in lowest terms (NO: there are none).");
        CoinTelescope x = Check.withView("haze 4;dull 99 p=5;dear 1 t=1");
        meanIs("no things", x, Long.MIN_VALUE, Long.MIN_VALUE);
        x.thing(0, 0, 0);
        meanIs("one, though dim", x, 4, 1);
        x.thing(1, 0, 0);
        meanIs("4 and 5", x, 9, 2);
        x.thing(3, 3, 0);
        meanIs("4, 5 and 3", x, 4, 1);
        x.thing(2, 0, 0);
        meanIs("4, 5, 3 and 2", x, 7, 2);
        x.thing(4, 0, 3);
        meanIs("4, 5, 3, 2 and 5", x, 19, 5);
        x.thing(0, 0, 0);
        meanIs("4, 5, 3, 2, 5 and 0", x, 19, 6);
        x.pass(1);
        meanIs("this tick: 5, 6, 4, 2, 6 and 0", x, 23, 6);
        x.had(0, true);
        meanIs("one is had: 18 by 5", x, 18, 5);
        for (int i = 0; i < 5; i++) {
            x.had(i, true);
        }
        meanIs("0 by 1", x, 0, 1);
        x.had(4, false);
        meanIs("6 and 0", x, 3, 1);
        x.had(4, true);
        x.had(5, true);
        meanIs("all are had", x, Long.MIN_VALUE, Long.MIN_VALUE);
    }

    private void plan() {
        doc.says("PLAN told by hand: DOINGS, or 5 (a TICK goes black); 8 at most.");
        CoinTelescope x = new CoinTelescope();
        x.thing(0, 0, 0);
        due("5", x.plan(5), 1);
        due("nothing is seen, the tube stays", x.done(0) + x.done(1), 0);
        for (int doing = 0; doing <= 4; doing++) {
            due("doing " + doing, x.plan(doing), doing + 2);
        }
        due("6", x.plan(6), -1);
        due("-2", x.plan(-2), -1);
        due("a seventh row", x.plan(2), 7);
        due("an eighth row", x.plan(2), 8);
        due("a ninth row", x.plan(2), -4);
        due("how many", x.count(3), 8);
        due("all eight count", x.done(1), 8);
        due("what they see, too", x.done(0), 4);
    }

    private void doneIs(String what, CoinTelescope x, int much, int tube, int left) {
        due(what + ": how much", x.done(0), much);
        due(what + ": the tube", x.done(1), tube);
        due(what + ": left", x.done(2), left);
    }

    private void done() {
        doc.says("DONE: how much is GAINED by it; where THE TUBE points then; LEFT then.");
        CoinTelescope x = Check.withView("coin 3;haze 1");
        x.thing(1, 0, 6);
        x.thing(0, 0, 1);
        x.thing(0, 0, 14);
        x.point(2);
        x.pay();
        doneIs("no rows", x, 0, 2, 3);
        x.plan(5);
        doneIs("black", x, 0, 2, 2);
        x.plan(3);
        doneIs("down, where the boat is by then", x, 5, 8, 1);
        x.plan(3);
        doneIs("down again", x, 9, 14, 0);
        x.plan(3);
        doneIs("one more than are left", x, 9, 20, 0);
        x.plan(3);
        doneIs("beyond the view", x, 9, 20, 0);
        x.plan(4);
        x.plan(5);
        x.plan(4);
        doneIs("eight rows", x, 9, 18, 0);
        x.had(2, true);
        doneIs("one is had", x, 5, 18, 0);
        x.plan(-1);
        doneIs("no rows again", x, 0, 2, 3);
        due("nothing is had by it", x.told(8), 4);
        CoinTelescope eighth = new CoinTelescope();
        eighth.thing(0, 0, 23);
        for (int doing : new int[] {2, 2, 2, 2, 2, 3, 3, 3}) {
            eighth.plan(doing);
        }
        doneIs("seen by the eighth row", eighth, 4, 23, 0);
        CoinTelescope still = new CoinTelescope();
        still.thing(0, 0, 0);
        for (int i = 0; i < 3; i++) {
            still.plan(5);
        }
        doneIs("black ticks see nothing where the tube points", still, 0, 0, 0);
        still.plan(0);
        doneIs("another one does", still, 4, 0, 0);
        still.plan(0);
        still.plan(0);
        doneIs("but not again", still, 4, 0, 0);
        CoinTelescope along = new CoinTelescope();
        along.thing(1, 0, 0);
        along.plan(2);
        along.plan(2);
        doneIs("along with the boat", along, 5, 2, 0);
        along.plan(-1);
        along.thing(0, 0, 6);
        along.thing(0, 0, 7);
        for (int doing : new int[] {3, 2, 4, 2}) {
            along.plan(doing);
        }
        doneIs("to and fro", along, 8, 7, 0);
    }

    private void book() {
        doc.says("BOOK told by hand: THINGS and CELLS where they are on this TICK; 8 at most.");
        CoinTelescope x = new CoinTelescope();
        x.thing(0, 0, 5);
        for (int i = 1; i <= 7; i++) {
            due("row " + i, x.book(0, 5), i);
        }
        due("the eighth", x.book(0, 6), 8);
        due("a ninth", x.book(0, 5), -4);
        due("how many", x.count(4), 8);
        due("the eighth counts", x.looked(), 7);
    }

    private void looked() {
        doc.says("LOOKED at: the first by which it is otherwise now (-5: none).");
        CoinTelescope x = new CoinTelescope();
        x.thing(1, 0, 0);
        x.thing(0, 0, 23);
        due("no rows", x.looked(), -5);
        x.book(1, 23);
        x.book(0, 0);
        x.book(0, 0);
        due("all so", x.looked(), -5);
        x.pass(1);
        due("of two the first", x.looked(), 1);
        x.move(1, 0);
        due("the very first", x.looked(), 0);
        x.move(1, 23);
        x.pass(5);
        due("around", x.looked(), -5);
    }

    private void acts() {
        doc.says("ACTS of a THING with x (ints, wrapping): shows, shakes, tells; i its number.");
        int most = Integer.MAX_VALUE;
        int least = Integer.MIN_VALUE;
        due("x and i", act(0, 0, most), least + 4);
        due("less v", act(0, 1, least - 5), most - 7);
        due("less v, on the other side", act(0, 1, most - 4), least - 8);
        due("times 2", act(0, 2, 1 << 30), -6 - 0x7fffffff - 1);
        due("times 3", act(1, 0, most), most - 2 + 5);
        due("times 3, least", act(1, 0, least), least + 5);
        due("less than 0 of the least", act(2, 1, least + 3), least);
        due("1 less than the least", act(4, 2, least), ((most * 3 + 5) - 8) * 2 + 6 + 5);
        due("and v", act(6, 1, most - 5), most);
    }

    /** An act of a thing of v 8, the fifth after the first. */
    private static int act(int kind, int act, int x) {
        CoinTelescope scope = new CoinTelescope();
        for (int i = 0; i < 5; i++) {
            scope.thing(0, 0, 0);
        }
        scope.thing(kind, 8, 0);
        return scope.act(5, act, x);
    }

    private void bodies() {
        doc.says("BODIES: THING: 1 shows: x + i. 2 shakes: shows(x) - v. 3 tells: shakes(x) * 2. "
            + "BOAT: 11 shows: super.shows(x * 3). HOUSE: 21 shakes: -super.shakes(x). "
            + "BIRD: 31 tells: super.tells(x) ^ 7. SHIP: 41 tells: super.tells(x - 1) + shows(2). "
            + "SPIRE: 51 shows: super.shows(x) ^ i. TOLD: 61 shakes: super.shakes(x) + v.");
        due("1", act(0, 0, 10), 15);
        due("2", act(0, 1, 10), 7);
        due("3", act(0, 2, 10), 14);
        due("11", act(1, 0, 10), 35);
        due("21", act(2, 1, 10), -7);
        due("31", act(3, 2, 10), 9);
        due("41", act(4, 2, 10), 2 * 24 + 11);
        due("51", act(5, 0, 10), 10);
        due("61", act(6, 1, 10), 15);
    }

    private void bodiesAreFound() {
        doc.says("shows(..) and so on: the body of its KIND, or, if that has none, of the next KIND above that has "
            + "one; super.shows(..): so from the KIND above the body's on; what stands in a body is done from the "
            + "left on.");
        due("shakes of a boat: by its shows", act(1, 1, 10), 27);
        due("tells of a boat", act(1, 2, 10), 54);
        due("shows of a house: a thing's", act(2, 0, 10), 15);
        due("tells of a house: by its shakes", act(2, 2, 10), -14);
        due("shows of a ship: a boat's", act(4, 0, 10), 35);
        due("shakes of a ship: a thing's, by a boat's", act(4, 1, 10), 27);
        due("shakes of a spire: a house's, by its shows", act(5, 1, 10), -2);
        due("tells of a spire", act(5, 2, 10), -4);
        due("shows of a told one", act(6, 0, 10), 15);
        due("tells of a told one: a bird's, by its shakes", act(6, 2, 10), 30 ^ 7);
        bodiesOf(4, 2, 41, 3, 2, 11, 1, 11, 1);
        bodiesOf(5, 2, 3, 21, 2, 51, 1);
        bodiesOf(6, 2, 31, 3, 61, 2, 1);
    }

    private void bodiesOf(int kind, int act, int... bodies) {
        CoinTelescope x = new CoinTelescope();
        x.thing(kind, 0, 0);
        x.act(0, act, 1);
        due("kind " + kind + ": how many ran", x.count(6), bodies.length);
        for (int i = 0; i < bodies.length; i++) {
            due("kind " + kind + ": body " + i, x.trace(i), bodies[i]);
        }
    }

    private void trace() {
        doc.says("THE TRACE: the numbers of the bodies that ran in the latest act(), as they began; "
            + "the first 20 are kept.");
        CoinTelescope x = new CoinTelescope();
        x.thing(0, 0, 0);
        x.thing(4, 0, 0);
        due("ahead of all acts", x.trace(0), -1);
        x.act(1, 2, 1);
        int[] bodies = {41, 3, 2, 11, 1, 11, 1, -1};
        for (int i = 0; i < bodies.length; i++) {
            due("body " + i, x.trace(i), bodies[i]);
        }
        x.act(0, 0, 1);
        due("of the latest act", x.trace(0), 1);
        due("alone", x.trace(1), -1);
        check.holds("no act runs more than seven bodies: the limit of 20 is looked at inside the program",
            Inside.tracesTwenty());
    }

    private void image() {
        doc.says("THE IMAGE: all that there is (but THE IMAGE and THE TRACE).");
        CoinTelescope x = Telescopes.busy();
        long[] ahead = Telescopes.answersOfAll(x);
        x.image();
        Telescopes.disturb(x);
        long[] disturbed = Telescopes.answersOfAll(x);
        for (int i = 0; i < ahead.length; i++) {
            check.holds("state " + i + " is otherwise", disturbed[i] != ahead[i]);
        }
        x.undo();
        long[] undone = Telescopes.answersOfAll(x);
        for (int i = 0; i < ahead.length; i++) {
            due("state " + i, undone[i], ahead[i]);
        }
        due("the image itself is still there", x.undo(), x.count(0));
        Check.feed(x, " 3");
        due("the tape goes on where it was", x.view(), 1);
        due("coin 3", x.told(1), 3);
        x.undo();
        x.act(0, 0, 1);
        int ran = x.count(6);
        x.image();
        x.act(0, 2, 1);
        check.holds("another act", x.count(6) != ran);
        int first = x.trace(0);
        int many = x.count(6);
        x.undo();
        due("the trace is as it was", x.trace(0), first);
        due("how many ran, too", x.count(6), many);
    }
}
