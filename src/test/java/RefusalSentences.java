/** The sentences of "Terms", part 3: refusals; and how many calls an object is used for. */
final class RefusalSentences {
    private static final int NONE = -1, BAD = -2, STATE = -3, FULL = -4, BELOW = -999999;
    private static final int LEAST = Integer.MIN_VALUE, MOST = Integer.MAX_VALUE;
    private static final long NO = Long.MIN_VALUE;

    /** A call on some telescope. */
    interface Call {
        long on(CoinTelescope x);
    }

    /** A call that a number is put into. */
    interface CallBy {
        long on(CoinTelescope x, int number);
    }

    private final Check check;
    private final Quotes doc;

    RefusalSentences(Check check, Quotes doc) {
        this.check = check;
        this.doc = doc;
    }

    void run() {
        doc.part("An object is used for", "## The public face");
        calls();
        doc.part("The constants: `NO", "Ahead of the calls `feed`");
        constants();
        doc.part("==== 3 REFUSALS", "The constants:");
        noneOfThings();
        noneOfOthers();
        bad();
        state();
        full();
        viewOfAFault();
        theFirstOneTold();
        below();
    }

    private void due(String what, long got, long want) {
        check.due(what, got, want);
    }

    private void calls() {
        doc.says("An object is used for at most 512 calls after it has been made; what later calls answer is free.");
        CoinTelescope x = new CoinTelescope();
        for (int i = 1; i <= 511; i++) {
            due("call " + i, x.pay(), 8);
        }
        due("the 512th", x.told(6), 511);
        for (int i = 0; i < 20000; i++) {
            x.pay();
            x.pass(60);
            x.feed(i % 128);
        }
        check.holds("later ones answer something, too", x.view() < 0);
    }

    private void constants() {
        doc.says("The constants: `NO = Long.MIN_VALUE`: There is no such number.");
        due("NO", CoinTelescope.NO, Long.MIN_VALUE);
        due("NONE", CoinTelescope.NONE, NONE);
        due("BAD", CoinTelescope.BAD, BAD);
        due("STATE", CoinTelescope.STATE, STATE);
        due("FULL", CoinTelescope.FULL, FULL);
    }

    private void same(String what, CoinTelescope one, CoinTelescope other) {
        long[] ones = Telescopes.answers(one);
        long[] others = Telescopes.answers(other);
        for (int i = 0; i < ones.length; i++) {
            due(what + ", answer " + i + " behind it", ones[i], others[i]);
        }
    }

    /** The call answers so, and the telescope is as another one with the same past, its tape and its image, too. */
    private void refused(String what, CoinTelescope x, CoinTelescope twin, long want, Call call) {
        due(what, call.on(x), want);
        same(what, x, twin);
        due(what + ", view() behind it", x.view(), twin.view());
        due(what + ", undo() behind it", x.undo(), twin.undo());
        for (int i = 0; i < 9; i++) {
            due(what + ", told behind undo()", x.told(i), twin.told(i));
        }
        due(what + ", view() behind undo()", x.view(), twin.view());
    }

    /** Numbers beside the range least .. most, and far from it, are refused. */
    private void outside(String what, int least, int most, long want, CallBy call) {
        for (int number : new int[] {least - 1, most + 1, LEAST, MOST, LEAST + most + 1, 1 << 30}) {
            refused(what + " " + number, Telescopes.busy(), Telescopes.busy(), want, x -> call.on(x, number));
        }
    }

    private void noneOfThings() {
        doc.says("NONE there is no such THING, KIND, CELL, DOING, what, part, k, i;");
        doc.says("They change nothing.");
        outside("of THING", 0, 3, NONE, (x, n) -> x.of(n, 0));
        outside("then THING", 0, 3, BELOW, (x, n) -> x.then(n, 0, 0));
        outside("row THING", 0, 3, NONE, (x, n) -> x.row(n, 0, 1));
        outside("move THING", 0, 3, NONE, (x, n) -> x.move(n, 1));
        outside("had THING", 0, 3, NONE, (x, n) -> x.had(n, true));
        outside("not had THING", 0, 3, NONE, (x, n) -> x.had(n, false));
        outside("soon THING", 0, 3, NONE, (x, n) -> x.soon(n));
        outside("stood THING", -1, 3, NONE, (x, n) -> x.stood(n, 0, 1));
        outside("from THING", 0, 3, NONE, (x, n) -> x.from(n));
        outside("firm THING", 0, 3, NONE, (x, n) -> x.firm(n, 0));
        outside("book THING", -1, 3, NONE, (x, n) -> x.book(n, 1));
        outside("as THING", 0, 3, NONE, (x, n) -> x.as(n, 0));
        outside("thing KIND", 0, 6, NONE, (x, n) -> x.thing(n, 0, 0));
        outside("as KIND", 0, 6, NONE, (x, n) -> x.as(0, n));
        outside("thing CELL", 0, 23, NONE, (x, n) -> x.thing(0, 0, n));
        outside("move CELL", 0, 23, NONE, (x, n) -> x.move(0, n));
        outside("point CELL", 0, 23, NONE, (x, n) -> x.point(n));
        outside("stood CELL", 0, 23, NONE, (x, n) -> x.stood(0, 0, n));
        outside("book CELL", 0, 23, NONE, (x, n) -> x.book(0, n));
    }

    private void noneOfOthers() {
        outside("tick DOING", 0, 4, NONE, (x, n) -> x.tick(n));
        outside("plan DOING", -1, 5, NONE, (x, n) -> x.plan(n));
        outside("of what", 0, 3, NONE, (x, n) -> x.of(0, n));
        outside("then what", 0, 3, BELOW, (x, n) -> x.then(0, 0, n));
        outside("told what", 0, 9, NONE, (x, n) -> x.told(n));
        outside("aim what", 0, 1, NONE, (x, n) -> x.aim(1, n));
        outside("firm what", 0, 1, NONE, (x, n) -> x.firm(0, n));
        outside("done what", 0, 2, NONE, (x, n) -> x.done(n));
        outside("count what", 0, 6, NONE, (x, n) -> x.count(n));
        outside("odds part", 0, 1, NO, (x, n) -> x.odds(0, 0, n));
        outside("mean part", 0, 1, NO, (x, n) -> x.mean(n));
        outside("row k", 0, 3, NONE, (x, n) -> x.row(0, n, 1));
        outside("look k", -1, 4, NONE, (x, n) -> x.look(1, n));
        outside("order k", -1, 5, NONE, (x, n) -> x.order(n));
        outside("trace i", 0, 19, NONE, (x, n) -> x.trace(n));
    }

    private void bad() {
        doc.says("BAD a number is not as told;");
        outside("feed sign", 0, 127, BAD, (x, n) -> x.feed(n));
        outside("thing v", 0, 9, BAD, (x, n) -> x.thing(0, n, 0));
        outside("row n", 0, 9, BAD, (x, n) -> x.row(0, 0, n));
        outside("pass n", 0, 60, BAD, (x, n) -> x.pass(n));
        outside("look n", 0, 5, BAD, (x, n) -> x.look(n, 0));
        outside("aim n", 1, 3, BAD, (x, n) -> x.aim(n, 0));
        outside("stood n", 0, 40, BAD, (x, n) -> x.stood(0, n, 0));
        outside("then n", 0, 60, BELOW, (x, n) -> x.then(0, n, 0));
        outside("odds n", 0, 3, NO, (x, n) -> x.odds(n, 0, 0));
        outside("odds q", 0, 9999, NO, (x, n) -> x.odds(0, n, 0));
    }

    private static CoinTelescope onTick(int tick) {
        CoinTelescope x = new CoinTelescope();
        x.thing(3, 5, 7);
        Telescopes.pass(x, tick);
        x.pay();
        return x;
    }

    private static CoinTelescope nothingLeft() {
        CoinTelescope x = new CoinTelescope();
        x.thing(0, 0, 1);
        return x;
    }

    /** More calls than the document speaks of: 9999 coins take as many. */
    private static CoinTelescope allCoins() {
        CoinTelescope x = Telescopes.busy();
        for (int i = 0; i < 9998; i++) {
            x.pay();
        }
        x.pass(5);
        return x;
    }

    private void state() {
        doc.says("STATE as told;");
        for (int thing = 1; thing <= 3; thing++) {
            int one = thing;
            refused("row of another KIND", Telescopes.busy(), Telescopes.busy(), STATE, x -> x.row(one, 0, 1));
        }
        for (int doing = 0; doing <= 4; doing++) {
            int one = doing;
            refused("tick, nothing left", nothingLeft(), nothingLeft(), STATE, x -> x.tick(one));
            refused("tick on 9999", onTick(9999), onTick(9999), STATE, x -> x.tick(one));
        }
        refused("pass on 9999", onTick(9999), onTick(9999), STATE, x -> x.pass(1));
        refused("pass 60 on 9940", onTick(9940), onTick(9940), STATE, x -> x.pass(60));
        refused("pay of 9999", allCoins(), allCoins(), STATE, x -> x.pay());
        refused("undo without an image", nothingLeft(), nothingLeft(), STATE, x -> x.undo());
    }

    private void full() {
        doc.says("FULL.");
        fullOne("feed", x -> x.feed('x'));
        fullOne("view", x -> x.view());
        fullOne("thing", x -> x.thing(0, 0, 0));
        fullOne("stood", x -> x.stood(0, 0, 0));
        fullOne("plan", x -> x.plan(0));
        fullOne("book", x -> x.book(0, 0));
    }

    private void fullOne(String what, Call call) {
        CoinTelescope x = Telescopes.full();
        CoinTelescope twin = Telescopes.full();
        due(what, call.on(x), FULL);
        same(what, x, twin);
        due("signs behind it", x.count(5), 100);
    }

    /** Not a refusal, but alike: the tape is empty, and all else is as it was. */
    private void viewOfAFault() {
        CoinTelescope x = Telescopes.busy();
        CoinTelescope twin = Telescopes.busy();
        due("a fault", x.view(), -14);
        due("the tape", x.count(5), 0);
        Check.feed(x, "abcd");
        same("a fault", x, twin);
    }

    private void first(String what, CoinTelescope x, long want, Call call) {
        due(what, call.on(x), want);
    }

    private void theFirstOneTold() {
        doc.says("==== 3 REFUSALS, of several the first one told:");
        CoinTelescope full = Telescopes.full();
        first("feed: BAD ahead of FULL", full, BAD, x -> x.feed(128));
        first("view: FULL ahead of a fault", full, FULL, x -> x.view());
        first("thing: kind ahead of BAD", full, NONE, x -> x.thing(7, 10, 0));
        first("thing: cell ahead of BAD", full, NONE, x -> x.thing(0, 10, 24));
        first("thing: kind ahead of FULL", full, NONE, x -> x.thing(-1, 0, 0));
        first("thing: cell ahead of FULL", full, NONE, x -> x.thing(0, 0, -1));
        first("thing: BAD ahead of FULL", full, BAD, x -> x.thing(0, -1, 0));
        first("row: thing ahead of BAD", full, NONE, x -> x.row(6, 0, 10));
        first("row: k ahead of BAD", full, NONE, x -> x.row(5, 4, 10));
        first("row: k ahead of STATE", full, NONE, x -> x.row(0, 4, 0));
        first("row: BAD ahead of STATE", full, BAD, x -> x.row(0, 0, 10));
        first("tick: NONE ahead of STATE", full, NONE, x -> x.tick(5));
        first("look: NONE ahead of BAD", full, NONE, x -> x.look(6, 5));
        first("look: BAD ahead of -5", full, BAD, x -> x.look(6, 4));
        first("look: NONE ahead of -5", full, NONE, x -> x.look(0, 5));
        first("aim: NONE ahead of BAD", full, NONE, x -> x.aim(0, 2));
        first("stood: thing ahead of BAD", full, NONE, x -> x.stood(6, 41, 0));
        first("stood: cell ahead of BAD", full, NONE, x -> x.stood(0, 41, 24));
        first("stood: thing ahead of FULL", full, NONE, x -> x.stood(6, 0, 0));
        first("stood: cell ahead of FULL", full, NONE, x -> x.stood(0, 0, 24));
        first("stood: BAD ahead of FULL", full, BAD, x -> x.stood(0, 41, 0));
        first("plan: NONE ahead of FULL", full, NONE, x -> x.plan(6));
        first("book: thing ahead of FULL", full, NONE, x -> x.book(6, 0));
        first("book: cell ahead of FULL", full, NONE, x -> x.book(0, 24));
        first("as: NONE ahead of -6", full, NONE, x -> x.as(0, 7));
        first("pass: BAD ahead of STATE", onTick(9999), BAD, x -> x.pass(61));
        first("pass: BAD ahead of STATE", onTick(9999), BAD, x -> x.pass(-1));
        first("tick: NONE ahead of STATE on 9999", onTick(9999), NONE, x -> x.tick(-1));
        first("order: NONE ahead of -5", new CoinTelescope(), NONE, x -> x.order(6));
    }

    private void below() {
        doc.says("Where an answer may be below 0, -999999 tells NONE.");
        CoinTelescope x = Check.withView("dull 1 p=0");
        x.thing(0, 0, 0);
        due("an answer of -1", x.then(0, 0, 2), -1);
        due("no such thing", x.then(1, 0, 2), BELOW);
        due("no such what", x.then(0, 0, 4), BELOW);
        due("no such ticks", x.then(0, 61, 2), BELOW);
    }
}
