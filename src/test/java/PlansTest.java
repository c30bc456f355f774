/** Promises 24 to 27: plan, done, book, looked. */
public final class PlansTest {
    private static final Check CHECK = new Check("PlansTest");

    public static void main(String[] args) {
        planRows();
        doneByAPlan();
        doneWithBlackTicks();
        doneWithoutLeft();
        bookRows();
        lookedAtTheFirst();
        CHECK.end();
    }

    private static void planRows() {
        CoinTelescope x = new CoinTelescope();
        for (int i = 0; i < 8; i++) {
            CHECK.due("row " + i, x.plan(i % 6), i + 1);
        }
        CHECK.due("full", x.plan(0), -4);
        CHECK.due("6", x.plan(6), -1);
        CHECK.due("-2", x.plan(-2), -1);
        CHECK.due("count", x.count(3), 8);
        CHECK.due("none then", x.plan(-1), 0);
        CHECK.due("count 0", x.count(3), 0);
        CHECK.due("again", x.plan(5), 1);
    }

    private static void done(String what, CoinTelescope x, int gained, int tube, int left) {
        CHECK.due(what + " gained", x.done(0), gained);
        CHECK.due(what + " tube", x.done(1), tube);
        CHECK.due(what + " left", x.done(2), left);
    }

    private static void doneByAPlan() {
        CoinTelescope x = Check.withView("coin 6;dear 3 l=6;haze 1");
        x.thing(0, 0, 7);
        x.thing(1, 0, 10);
        x.thing(0, 0, 1);
        x.pay();
        done("empty", x, 0, 0, 6);
        x.plan(2);
        done("one is dim", x, 0, 1, 5);
        x.plan(3);
        done("down", x, 7, 7, 4);
        x.plan(4);
        done("the boat comes later", x, 7, 6, 3);
        x.plan(0);
        x.plan(0);
        done("no", x, 7, 6, 1);
        x.plan(-1);
        x.plan(3);
        x.plan(0);
        done("the boat", x, 8, 6, 4);
        CHECK.due("what 3", x.done(3), -1);
        CHECK.due("what -1", x.done(-1), -1);
        CHECK.due("nothing changed", x.told(0) + x.told(4) + x.told(7) + x.told(8), 0);
        x.had(1, true);
        done("it is had", x, 0, 6, 4);
        x.point(7);
        x.plan(-1);
        x.plan(0);
        x.plan(0);
        x.plan(0);
        done("seen but once", x, 7, 7, 3);
        CoinTelescope far = new CoinTelescope();
        far.thing(0, 0, 23);
        for (int doing : new int[] {2, 2, 2, 2, 2, 3, 3, 3}) {
            far.plan(doing);
        }
        done("by the eighth row", far, 4, 23, 0);
    }

    private static void doneWithBlackTicks() {
        CoinTelescope x = new CoinTelescope();
        x.thing(0, 0, 1);
        x.thing(1, 0, 0);
        x.pay();
        x.plan(5);
        done("black", x, 0, 0, 7);
        x.plan(2);
        done("right", x, 4, 1, 6);
        x.plan(2);
        x.plan(5);
        x.plan(2);
        done("and on", x, 4, 3, 3);
        x.plan(0);
        x.plan(0);
        x.plan(0);
        done("at the eighth", x, 4, 3, 0);
    }

    private static void doneWithoutLeft() {
        CoinTelescope x = new CoinTelescope();
        x.thing(0, 0, 1);
        x.plan(2);
        x.plan(5);
        done("nothing left", x, 4, 1, 0);
        x.pay();
        x.pass(7);
        done("one left", x, 4, 1, 0);
    }

    private static void bookRows() {
        CoinTelescope x = new CoinTelescope();
        CHECK.due("no thing", x.book(0, 0), -1);
        x.thing(0, 0, 5);
        CHECK.due("cell 24", x.book(0, 24), -1);
        CHECK.due("cell -1", x.book(0, -1), -1);
        CHECK.due("thing 1", x.book(1, 0), -1);
        CHECK.due("thing -2", x.book(-2, 0), -1);
        for (int i = 1; i <= 8; i++) {
            CHECK.due("row " + i, x.book(0, 5), i);
        }
        CHECK.due("full", x.book(0, 5), -4);
        CHECK.due("NONE ahead of FULL", x.book(0, 24), -1);
        CHECK.due("count", x.count(4), 8);
        CHECK.due("none then", x.book(-1, 99), 0);
        CHECK.due("count 0", x.count(4), 0);
    }

    private static void lookedAtTheFirst() {
        CoinTelescope x = new CoinTelescope();
        x.thing(0, 0, 5);
        x.thing(1, 0, 5);
        x.thing(4, 0, 5);
        CHECK.due("empty", x.looked(), -5);
        x.book(0, 5);
        x.book(2, 5);
        x.book(1, 5);
        CHECK.due("all so", x.looked(), -5);
        x.pass(1);
        CHECK.due("the boat went", x.looked(), 2);
        x.pass(1);
        CHECK.due("the ship, too", x.looked(), 1);
        x.move(0, 4);
        CHECK.due("the thing, too", x.looked(), 0);
        x.book(-1, 0);
        x.book(0, 4);
        CHECK.due("told anew", x.looked(), -5);
    }
}
