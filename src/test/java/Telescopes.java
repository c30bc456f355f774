/** Telescopes that more than one test needs, and what one of them answers to all that can be asked. */
final class Telescopes {
    private Telescopes() {
    }

    /** Six things at cell 0, where the tube points, each worth 4 and 8 times 99: 4776 together. */
    static CoinTelescope dear() {
        CoinTelescope x = Check.withView("dear 99 p<9;".repeat(7) + "dear 99 p<9");
        for (int i = 0; i < 6; i++) {
            x.thing(0, 0, 0);
        }
        return x;
    }

    /** A tick by which all six dear ones are gained, had or not: what the tick answers. */
    static int gain(CoinTelescope x) {
        for (int i = 0; i < 6; i++) {
            x.had(i, false);
        }
        if (x.told(5) == 0) {
            x.pay();
        }
        return x.tick(0);
    }

    /** So many ticks go black. */
    static void pass(CoinTelescope x, int ticks) {
        for (int rest = ticks; rest > 0; rest -= 60) {
            x.pass(Math.min(60, rest));
        }
    }

    /** Something of all that there is, nothing of it at its limit: on tick 1, with 8 left; an image that differs. */
    static CoinTelescope busy() {
        CoinTelescope x = Check.withView("coin 9;adds 1;haze 1;dear 9 k=1|c>9;dull 3 l<9");
        x.thing(6, 2, 12);
        x.thing(1, 1, 18);
        x.thing(5, 3, 4);
        x.thing(4, 4, 7);
        x.row(0, 1, 3);
        x.had(2, true);
        x.pay();
        x.point(13);
        x.tick(3);
        x.stood(0, 3, 4);
        x.plan(2);
        x.plan(5);
        x.book(1, 19);
        x.book(3, 7);
        x.act(0, 2, 7);
        Check.feed(x, "coi");
        x.image();
        x.move(3, 8);
        x.row(0, 2, 7);
        x.point(20);
        x.feed('n');
        return x;
    }

    /** All that has a limit that 512 calls can reach is full. */
    static CoinTelescope full() {
        CoinTelescope x = new CoinTelescope();
        for (int i = 0; i < 5; i++) {
            Check.view(x, "haze " + i / 2);
        }
        for (int kind = 1; kind <= 6; kind++) {
            x.thing(kind, kind, 3 * kind);
        }
        for (int i = 0; i < 5; i++) {
            x.stood(i, i, i);
        }
        for (int i = 0; i < 8; i++) {
            x.plan(i % 6);
            x.book(i % 6, 3 * (i % 6) + 3);
        }
        x.act(5, 2, 1);
        Check.feed(x, "haze 3;".repeat(14) + "xx");
        return x;
    }

    /** All of busy() becomes otherwise. */
    static void disturb(CoinTelescope x) {
        Check.feed(x, " 7;adds 2;haze 2");
        x.view();
        x.thing(0, 0, 0);
        x.move(0, 13);
        x.row(0, 1, 4);
        x.had(3, true);
        x.pay();
        x.point(22);
        x.had(1, false);
        x.pass(1);
        x.tick(4);
        x.stood(-1, 0, 0);
        x.stood(0, 5, 5);
        x.stood(1, 0, 0);
        x.plan(-1);
        x.plan(4);
        x.book(-1, 0);
        x.book(2, 3);
        Check.feed(x, "ha");
    }

    /** A number for each part of the state that can be asked for. */
    static long[] answersOfAll(CoinTelescope x) {
        long[] all = new long[20];
        for (int what = 0; what <= 8; what++) {
            all[what] = x.told(what);
        }
        for (int what = 0; what <= 5; what++) {
            all[9 + what] = x.count(what);
        }
        all[15] = x.of(0, 2);
        all[16] = x.row(0, 1, 0);
        x.row(0, 1, (int) all[16]);
        all[17] = x.from(0);
        all[18] = x.done(1);
        all[19] = x.looked();
        return all;
    }

    /** The answers of all calls that change nothing, to look whether another call changed something. */
    static long[] answers(CoinTelescope x) {
        long[] all = new long[160];
        int at = 0;
        for (int what = -1; what <= 10; what++) {
            all[at++] = x.told(what);
            all[at++] = x.count(what);
        }
        for (int thing = 0; thing <= 5; thing++) {
            for (int what = 0; what <= 3; what++) {
                all[at++] = x.of(thing, what);
                all[at++] = x.then(thing, 1, what);
            }
            all[at++] = x.then(thing, 2, 0);
            all[at++] = x.from(thing);
            all[at++] = x.firm(thing, 0);
            all[at++] = x.firm(thing, 1);
            all[at++] = x.soon(thing);
            all[at++] = x.as(thing, 3);
            all[at++] = x.order(thing - 1);
        }
        for (int k = -1; k <= 2; k++) {
            all[at++] = x.look(3, k);
            all[at++] = x.done(k);
        }
        for (int part = 0; part <= 1; part++) {
            all[at++] = x.aim(2, part);
            all[at++] = x.odds(2, 9, part);
            all[at++] = x.mean(part);
        }
        for (int i = 0; i < 8; i++) {
            all[at++] = x.trace(i);
        }
        all[at++] = x.looked();
        return java.util.Arrays.copyOf(all, at);
    }
}
