/** The sentences of promises 15 to 33: what is asked, told by hand, acted, and the image. */
final class AskPromiseSentences {
    private static final int NONE = -1, BAD = -2, STATE = -3, FULL = -4;
    private static final int LEAST = Integer.MIN_VALUE, MOST = Integer.MAX_VALUE;
    private static final long NO = Long.MIN_VALUE;

    private final Check check;
    private final Quotes doc;

    AskPromiseSentences(Check check, Quotes doc) {
        this.check = check;
        this.doc = doc;
    }

    void run() {
        look();
        aim();
        soon();
        order();
        stood();
        from();
        firm();
        odds();
        mean();
        plan();
        done();
        book();
        looked();
        act();
        trace();
        as();
        image();
        undo();
        count();
    }

    private void due(String what, long got, long want) {
        check.due(what, got, want);
    }

    private static CoinTelescope of(int kind, int v, int cell) {
        CoinTelescope x = new CoinTelescope();
        x.thing(kind, v, cell);
        return x;
    }

    private void look() {
        doc.promise(15);
        doc.says("LOOK: k -1 how much, else the k-th DOING (-5: there are fewer).");
        CoinTelescope x = of(0, 0, 14);
        x.point(1);
        for (int n = 0; n <= 5; n++) {
            due("how much of " + n, x.look(n, -1), n < 3 ? 0 : 4);
            int[] row = n == 3 ? new int[] {2, 3, 3} : n == 4 ? new int[] {0, 2, 3, 3}
                : n == 5 ? new int[] {0, 0, 2, 3, 3} : new int[n];
            for (int k = 0; k <= 4; k++) {
                due("doing " + k + " of " + n, x.look(n, k), k < n ? row[k] : -5);
            }
        }
        doc.says("NONE: k (-1 .. 4);");
        for (int bad : new int[] {-2, 5, LEAST, MOST}) {
            due("k " + bad, x.look(5, bad), NONE);
            due("k " + bad + " of 6", x.look(6, bad), NONE);
        }
        doc.says("BAD: n.");
        for (int bad : new int[] {-1, 6, LEAST, MOST}) {
            due("n " + bad, x.look(bad, -1), BAD);
            due("n " + bad + ", k 4", x.look(bad, 4), BAD);
        }
    }

    private void aim() {
        doc.promise(16);
        doc.says("AIM: what 0 which, 1 how much.");
        CoinTelescope x = of(0, 0, 21);
        x.thing(5, 3, 21);
        due("which of 1", x.aim(1, 0), 15);
        due("how much of 1", x.aim(1, 1), 9);
        due("which of 3", x.aim(3, 0), 3);
        due("how much of 3", x.aim(3, 1), 9);
        doc.says("NONE: what;");
        for (int bad : new int[] {-1, 2, LEAST, MOST}) {
            due("what " + bad, x.aim(1, bad), NONE);
            due("what " + bad + " of 4", x.aim(4, bad), NONE);
        }
        doc.says("BAD: n.");
        for (int bad : new int[] {-1, 0, 4, LEAST, MOST}) {
            due("n " + bad, x.aim(bad, 0), BAD);
            due("n " + bad + ", how much", x.aim(bad, 1), BAD);
        }
    }

    private void soon() {
        doc.promise(17);
        doc.says("SOON;");
        CoinTelescope x = Check.withView("haze 2");
        x.thing(5, 0, 0);
        x.thing(3, 1, 10);
        x.thing(0, 0, 11);
        due("where it points already", x.soon(0), 1);
        due("out of the haze", x.soon(1), 2);
        x.had(0, true);
        due("had or not", x.soon(0), 1);
        x.pass(1);
        due("from now, too far till then", x.soon(1), 7);
        doc.says("-5.");
        due("dim for ever", x.soon(2), -5);
        doc.says("NONE.");
        for (int bad : new int[] {-1, 3, 6, LEAST, MOST}) {
            due("thing " + bad, x.soon(bad), NONE);
        }
    }

    private void order() {
        doc.promise(18);
        doc.says("ORDER: k -1 how many, else the k-th;");
        CoinTelescope x = new CoinTelescope();
        int[] cells = {5, 0, 4, 1, 3, 2};
        for (int cell : cells) {
            x.thing(0, 0, cell);
        }
        due("how many", x.order(-1), 6);
        int[] row = {1, 3, 5, 4, 2, 0};
        for (int k = 0; k < 6; k++) {
            due("the k-th " + k, x.order(k), row[k]);
        }
        x.had(3, true);
        due("one less", x.order(-1), 6);
        due("the second", x.order(1), 5);
        due("the fifth", x.order(4), 0);
        doc.says("-5.");
        due("no sixth", x.order(5), -5);
        Check.view(x, "haze 1");
        for (int k = -1; k < 6; k++) {
            due("all dim, k " + k, x.order(k), -5);
        }
        due("none at all: 0", new CoinTelescope().order(-1), 0);
        due("none at all, no first", new CoinTelescope().order(0), -5);
        doc.says("NONE: k (-1 .. 5).");
        for (int bad : new int[] {-2, 6, LEAST, MOST}) {
            due("k " + bad, x.order(bad), NONE);
        }
    }

    private void stood() {
        doc.promise(19);
        doc.says("What STOOD comes: how many there are");
        CoinTelescope x = of(1, 0, 7);
        x.thing(0, 0, 0);
        due("the first", x.stood(0, 0, 8), 1);
        due("alike", x.stood(0, 0, 8), 2);
        due("of another", x.stood(1, 40, 23), 3);
        doc.says("(thing -1: none then, 0, whatever the others are).");
        due("wild others", x.stood(-1, LEAST, MOST), 0);
        due("none", x.count(2), 0);
        due("none already", x.stood(-1, 41, 24), 0);
        due("from 1 on", x.stood(0, 1, 8), 1);
        due("the earlier ones are gone", x.from(0), 1 << 7);
        doc.says("NONE: thing, cell;");
        for (int bad : new int[] {-2, 2, LEAST, MOST}) {
            due("thing " + bad, x.stood(bad, 0, 0), NONE);
            due("thing " + bad + ", n 41", x.stood(bad, 41, 0), NONE);
        }
        for (int bad : new int[] {-1, 24, LEAST, MOST}) {
            due("cell " + bad, x.stood(0, 0, bad), NONE);
            due("cell " + bad + ", n 41", x.stood(0, 41, bad), NONE);
        }
        doc.says("BAD: n;");
        for (int bad : new int[] {-1, 41, LEAST, MOST}) {
            due("n " + bad, x.stood(0, bad, 0), BAD);
        }
        due("one still", x.count(2), 1);
        doc.says("FULL: 5.");
        for (int i = 2; i <= 5; i++) {
            due("one more", x.stood(1, 0, 0), i);
        }
        due("a sixth", x.stood(0, 0, 8), FULL);
        due("none of it came", x.from(0), 1 << 7);
        due("none then, though full", x.stood(-1, 0, 0), 0);
    }

    private void from() {
        doc.promise(20);
        doc.says("FROM (bits).");
        CoinTelescope x = of(4, 0, 0);
        due("all", x.from(0), (1 << 24) - 1);
        x.stood(0, 0, 23);
        due("the highest", x.from(0), 1 << 23);
        x.stood(0, 1, 22);
        due("none", x.from(0), 0);
        doc.says("NONE.");
        for (int bad : new int[] {-1, 1, LEAST, MOST}) {
            due("thing " + bad, x.from(bad), NONE);
        }
    }

    private void firm() {
        doc.promise(21);
        doc.says("FIRM: what 0 how many, 1 the least;");
        CoinTelescope x = of(6, 9, 3);
        due("how many", x.firm(0, 0), 10);
        due("the least", x.firm(0, 1), 0);
        x.row(0, 2, 1);
        x.stood(0, 2, 20);
        due("3 and 1 and twice 8", x.firm(0, 0), 1);
        due("8", x.firm(0, 1), 8);
        doc.says("-5.");
        x.stood(0, 1, 3);
        due("0 then", x.firm(0, 0), 0);
        due("none", x.firm(0, 1), -5);
        doc.says("NONE.");
        for (int bad : new int[] {-1, 1, LEAST, MOST}) {
            due("thing " + bad, x.firm(bad, 0), NONE);
        }
        for (int bad : new int[] {-1, 2, LEAST, MOST}) {
            due("what " + bad, x.firm(0, bad), NONE);
        }
    }

    private void odds() {
        doc.promise(22);
        doc.says("ODDS.");
        CoinTelescope x = of(0, 0, 17);
        x.point(17);
        due("by haze 0 .. 2: above", x.odds(1, 4, 0), 3);
        due("below", x.odds(1, 4, 1), 4);
        due("at most 9999: above", x.odds(3, 9999, 0), 0);
        due("below", x.odds(3, 9999, 1), 1);
        due("at least 0: above", x.odds(0, 0, 0), 1);
        doc.says("NO: n, q, part.");
        for (int bad : new int[] {-1, 4, LEAST, MOST}) {
            due("n " + bad, x.odds(bad, 0, 0), NO);
        }
        for (int bad : new int[] {-1, 10000, LEAST, MOST}) {
            due("q " + bad, x.odds(0, bad, 0), NO);
        }
        for (int bad : new int[] {-1, 2, LEAST, MOST}) {
            due("part " + bad, x.odds(0, 0, bad), NO);
        }
    }

    private void mean() {
        doc.promise(23);
        doc.says("MEAN.");
        CoinTelescope x = of(0, 0, 0);
        x.thing(1, 0, 0);
        x.thing(1, 0, 0);
        x.thing(2, 0, 0);
        due("16 by 4: above", x.mean(0), 4);
        due("below", x.mean(1), 1);
        x.had(3, true);
        due("14 by 3: above", x.mean(0), 14);
        due("below", x.mean(1), 3);
        doc.says("NO: part, there are none.");
        for (int bad : new int[] {-1, 2, LEAST, MOST}) {
            due("part " + bad, x.mean(bad), NO);
        }
        for (int i = 0; i < 3; i++) {
            x.had(i, true);
        }
        due("all are had", x.mean(0), NO);
        due("all are had, below", x.mean(1), NO);
        due("no things", new CoinTelescope().mean(0), NO);
    }

    private void plan() {
        doc.promise(24);
        doc.says("A row comes to the PLAN: how many there are (doing -1: none then, 0).");
        CoinTelescope x = new CoinTelescope();
        due("none of none", x.plan(-1), 0);
        due("the first", x.plan(0), 1);
        due("the second", x.plan(5), 2);
        due("none then", x.plan(-1), 0);
        due("count", x.count(3), 0);
        due("from 1 on", x.plan(2), 1);
        due("the earlier ones are gone", x.done(1), 1);
        doc.says("NONE: doing (0 .. 5);");
        for (int bad : new int[] {-2, 6, LEAST, MOST}) {
            due("doing " + bad, x.plan(bad), NONE);
        }
        doc.says("FULL: 8.");
        for (int i = 2; i <= 8; i++) {
            due("one more", x.plan(3), i);
        }
        due("a ninth", x.plan(2), FULL);
        due("a ninth, black", x.plan(5), FULL);
        due("rows", x.count(3), 8);
        due("none then, though full", x.plan(-1), 0);
    }

    private void done() {
        doc.promise(25);
        doc.says("DONE: what 0 how much, 1 where THE TUBE points, 2 LEFT.");
        CoinTelescope x = of(5, 9, 7);
        x.pay();
        x.plan(3);
        x.plan(2);
        x.plan(5);
        due("how much", x.done(0), 11);
        due("tube", x.done(1), 7);
        due("left", x.done(2), 5);
        x.pass(6);
        due("none left", x.done(2), 0);
        due("as much", x.done(0), 11);
        doc.says("NONE.");
        for (int bad : new int[] {-1, 3, LEAST, MOST}) {
            due("what " + bad, x.done(bad), NONE);
        }
    }

    private void book() {
        doc.promise(26);
        doc.says("A row comes to BOOK: how many there are (thing -1: none then, 0, whatever the other is).");
        CoinTelescope x = of(0, 0, 9);
        due("none of none", x.book(-1, LEAST), 0);
        due("the first", x.book(0, 0), 1);
        due("the second", x.book(0, 9), 2);
        due("none then", x.book(-1, 24), 0);
        due("count", x.count(4), 0);
        due("from 1 on", x.book(0, 9), 1);
        due("the earlier ones are gone", x.looked(), -5);
        doc.says("NONE: thing, cell;");
        for (int bad : new int[] {-2, 1, LEAST, MOST}) {
            due("thing " + bad, x.book(bad, 0), NONE);
        }
        for (int bad : new int[] {-1, 24, LEAST, MOST}) {
            due("cell " + bad, x.book(0, bad), NONE);
        }
        doc.says("FULL: 8.");
        for (int i = 2; i <= 8; i++) {
            due("one more", x.book(0, 9), i);
        }
        due("a ninth", x.book(0, 0), FULL);
        due("none of it came", x.looked(), -5);
        due("rows", x.count(4), 8);
        due("none then, though full", x.book(-1, 9), 0);
    }

    private void looked() {
        doc.promise(27);
        doc.says("LOOKED at;");
        CoinTelescope x = of(3, 9, 20);
        x.book(0, 20);
        x.book(0, 5);
        due("the second row: 1", x.looked(), 1);
        x.pass(1);
        due("the first row: 0", x.looked(), 0);
        doc.says("-5.");
        x.book(-1, 0);
        due("no rows", x.looked(), -5);
        x.book(0, 5);
        due("behind 23 comes 0", x.looked(), -5);
    }

    private void act() {
        doc.promise(28);
        doc.says("An ACT (0 shows, 1 shakes, 2 tells) of a THING with x.");
        CoinTelescope x = of(0, 0, 0);
        x.thing(0, 4, 0);
        due("shows", x.act(1, 0, 5), 6);
        due("shakes", x.act(1, 1, 5), 2);
        due("tells", x.act(1, 2, 5), 4);
        due("wraps", x.act(1, 0, MOST), LEAST);
        due("wraps below", x.act(1, 1, LEAST), MOST - 2);
        due("nothing changes", x.of(1, 1), 4);
        doc.says("0, and no TRACE then: no such THING, act.");
        for (int bad : new int[] {-1, 2, LEAST, MOST}) {
            x.act(1, 2, 5);
            due("thing " + bad, x.act(bad, 0, 5), 0);
            due("no trace", x.trace(0), NONE);
            due("none ran", x.count(6), 0);
        }
        for (int bad : new int[] {-1, 3, LEAST, MOST}) {
            x.act(1, 2, 5);
            due("act " + bad, x.act(1, bad, 5), 0);
            due("no trace", x.trace(0), NONE);
            due("none ran", x.count(6), 0);
        }
        due("neither", x.act(9, 9, 5), 0);
    }

    private void trace() {
        doc.promise(29);
        doc.says("THE TRACE's i-th body.");
        CoinTelescope x = of(4, 0, 0);
        due("ahead of all", x.trace(0), NONE);
        x.act(0, 1, 1);
        due("the first", x.trace(0), 2);
        due("the second", x.trace(1), 11);
        due("the third", x.trace(2), 1);
        doc.says("NONE.");
        for (int bad : new int[] {-1, 3, 19, 20, LEAST, MOST}) {
            due("i " + bad, x.trace(bad), NONE);
        }
        x.act(0, 0, 1);
        due("of the one ahead of it no more", x.trace(2), NONE);
    }

    private void as() {
        doc.promise(30);
        doc.says("A THING taken for a KIND k (0 .. 6), or one under that: its v.");
        CoinTelescope x = of(4, 8, 0);
        x.thing(6, 7, 0);
        x.thing(0, 6, 0);
        due("a ship: for a ship", x.as(0, 4), 8);
        due("for a boat", x.as(0, 1), 8);
        due("for a thing", x.as(0, 0), 8);
        due("a told one: for a told one", x.as(1, 6), 7);
        due("for a bird", x.as(1, 3), 7);
        due("a thing: for a thing", x.as(2, 0), 6);
        doc.says("NONE: thing, k;");
        for (int bad : new int[] {-1, 3, LEAST, MOST}) {
            due("thing " + bad, x.as(bad, 0), NONE);
        }
        for (int bad : new int[] {-1, 7, LEAST, MOST}) {
            due("k " + bad, x.as(0, bad), NONE);
        }
        doc.says("-6: it is of another KIND.");
        int[][] not = {{2, 3, 5, 6}, {1, 2, 4, 5}, {1, 2, 3, 4, 5, 6}};
        for (int thing = 0; thing < not.length; thing++) {
            for (int k : not[thing]) {
                due("thing " + thing + " for " + k, x.as(thing, k), -6);
            }
        }
        due("a boat is no ship", of(1, 8, 0).as(0, 4), -6);
        due("a bird is no told one", of(3, 8, 0).as(0, 6), -6);
        due("a house is no spire", of(2, 8, 0).as(0, 5), -6);
    }

    private void image() {
        doc.promise(31);
        doc.says("THE IMAGE is taken: how many THINGS there are.");
        CoinTelescope x = new CoinTelescope();
        due("none", x.image(), 0);
        for (int i = 1; i <= 6; i++) {
            x.thing(i, i, i);
            due("things", x.image(), i);
        }
        x.pass(5);
        due("taken anew", x.image(), 6);
        x.pass(5);
        x.undo();
        due("the newest one", x.told(0), 5);
    }

    private void undo() {
        doc.promise(32);
        doc.says("All is as THE IMAGE: how many THINGS.");
        CoinTelescope x = of(6, 1, 1);
        x.image();
        x.thing(1, 1, 1);
        x.move(0, 5);
        x.row(0, 0, 9);
        x.pay();
        Check.view(x, "haze 2");
        x.feed('c');
        due("things", x.undo(), 1);
        due("no second one", x.of(1, 0), NONE);
        due("it comes from", x.of(0, 2), 1);
        due("its row", x.row(0, 0, 0), 0);
        due("coins", x.told(6), 0);
        due("haze", x.told(3), 0);
        due("views", x.count(1), 0);
        due("signs", x.count(5), 0);
        x.pass(9);
        due("again", x.undo(), 1);
        due("tick", x.told(0), 0);
        CoinTelescope none = new CoinTelescope();
        none.image();
        none.thing(0, 0, 0);
        due("of no things", none.undo(), 0);
        due("things", none.count(0), 0);
        doc.says("STATE: there is none.");
        CoinTelescope y = of(0, 0, 0);
        y.pass(1);
        due("no image", y.undo(), STATE);
        due("all stays", y.count(0) + y.told(0), 2);
        due("image", y.image(), 1);
        due("one now", y.undo(), 1);
    }

    private void count() {
        doc.promise(33);
        doc.says("0 THINGS, 1 VIEWS, 2 of STOOD, 3 of the PLAN, 4 rows of BOOK, 5 signs of THE TAPE,");
        CoinTelescope x = new CoinTelescope();
        for (int what = 0; what <= 6; what++) {
            due("at first " + what, x.count(what), 0);
        }
        Check.view(x, "coin 2");
        x.thing(1, 0, 0);
        x.thing(1, 0, 0);
        for (int i = 1; i <= 6; i++) {
            x.feed('a');
            if (i <= 5) {
                x.plan(0);
            }
            if (i <= 4) {
                x.book(1, 1);
            }
            if (i <= 3) {
                x.stood(0, 1, 1);
            }
        }
        int[] due = {2, 1, 3, 5, 4, 6};
        for (int what = 0; what < due.length; what++) {
            due("count " + what, x.count(what), due[what]);
        }
        CoinTelescope full = Telescopes.full();
        int[] most = {6, 5, 5, 8, 8, 100};
        for (int what = 0; what < most.length; what++) {
            due("full " + what, full.count(what), most[what]);
        }
        doc.says("6 bodies that ran in the latest act() (all, kept or not).");
        x.act(0, 2, 1);
        due("four", x.count(6), 4);
        x.act(0, 0, 1);
        due("two", x.count(6), 2);
        x.act(2, 0, 1);
        due("none", x.count(6), 0);
        check.holds("inside: 25 are counted, though 20 are kept", Inside.tracesTwenty());
        doc.says("NONE.");
        for (int bad : new int[] {-1, 7, LEAST, MOST}) {
            due("what " + bad, x.count(bad), NONE);
        }
    }
}
