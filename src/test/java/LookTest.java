/** Promises 15 to 18: look, aim, soon, order. */
public final class LookTest {
    private static final Check CHECK = new Check("LookTest");

    public static void main(String[] args) {
        lookFindsTheMost();
        lookTakesTheFirstRow();
        lookChangesNothing();
        lookWithoutLeft();
        lookIsRefused();
        aimTakesTheFirstCell();
        soonAtTheEdges();
        soonThroughHaze();
        orderFindsTheFewest();
        orderAtTheEdges();
        CHECK.end();
    }

    private static void look(String what, CoinTelescope x, int n, int most, int... row) {
        CHECK.due(what, x.look(n, -1), most);
        for (int k = 0; k < 5; k++) {
            CHECK.due(what + ", doing " + k, x.look(n, k), k < row.length ? row[k] : -5);
        }
    }

    private static void lookFindsTheMost() {
        CoinTelescope x = Check.withView("dear 30 p=2");
        x.thing(0, 0, 1);
        x.thing(0, 0, 2);
        x.thing(2, 0, 18);
        x.thing(1, 0, 11);
        look("0", x, 0, 0);
        look("1", x, 1, 5, 3);
        look("2, the boat on its way", x, 2, 4 + 5, 2, 3);
        look("3", x, 3, 5 + 17, 3, 3, 3);
        look("5", x, 5, 4 + 5 + 17, 2, 3, 3, 3, 4);
        x.had(2, true);
        look("5, one had", x, 5, 13, 2, 2, 2, 2, 3);
    }

    private static void lookTakesTheFirstRow() {
        CoinTelescope x = new CoinTelescope();
        x.point(8);
        x.thing(0, 0, 2);
        x.thing(0, 0, 9);
        x.thing(0, 0, 14);
        x.thing(0, 0, 7);
        look("first of four", x, 1, 4, 1);
        look("hold still first", x, 2, 4, 0, 1);
        look("two of four", x, 3, 8, 1, 2, 3);
        x.thing(0, 0, 8);
        look("where it points", x, 1, 4, 0);
        look("and on", x, 2, 8, 0, 1);
    }

    private static void lookChangesNothing() {
        CoinTelescope x = new CoinTelescope();
        x.thing(0, 0, 1);
        x.look(5, -1);
        x.aim(3, 0);
        x.order(-1);
        x.soon(0);
        x.odds(3, 1, 0);
        CHECK.due("tick", x.told(0), 0);
        CHECK.due("tube", x.told(4), 0);
        CHECK.due("had", x.told(8), 0);
        CHECK.due("gain", x.told(7), 0);
    }

    private static void lookWithoutLeft() {
        CoinTelescope x = Check.withView("coin 2;dear 9 l=2;dear 5 l=0;dear 1 l=1");
        x.thing(3, 2, 21);
        look("nothing left", x, 3, 7, 0, 2, 0);
        x.pay();
        look("two left, all the way", x, 3, 11, 0, 2, 0);
        for (int i = 0; i < 166; i++) {
            x.pass(60);
        }
        x.pass(39);
        CHECK.due("the last tick", x.told(0), 9999);
        x.point(x.then(0, 2, 0));
        look("beyond 9999", x, 2, 7, 0, 0);
    }

    private static void lookIsRefused() {
        CoinTelescope x = new CoinTelescope();
        CHECK.due("n 6", x.look(6, -1), -2);
        CHECK.due("n -1", x.look(-1, -1), -2);
        CHECK.due("k 5", x.look(1, 5), -1);
        CHECK.due("k -2", x.look(1, -2), -1);
        CHECK.due("NONE ahead of BAD", x.look(6, 5), -1);
        CHECK.due("BAD ahead of -5", x.look(-1, 0), -2);
        CHECK.due("n 5 k 4", x.look(5, 4), 0);
        CHECK.due("n 4 k 4", x.look(4, 4), -5);
    }

    private static void aimTakesTheFirstCell() {
        CoinTelescope x = Check.withView("dear 5 p=2");
        CHECK.due("nothing: first cell", x.aim(3, 0), 0);
        CHECK.due("nothing", x.aim(3, 1), 0);
        x.thing(0, 0, 21);
        CHECK.due("1", x.aim(1, 0), 15);
        CHECK.due("2", x.aim(2, 0), 9);
        CHECK.due("3", x.aim(3, 0), 3);
        CHECK.due("3 much", x.aim(3, 1), 4);
        x.thing(0, 0, 3);
        x.thing(0, 0, 0);
        CHECK.due("1 dearest", x.aim(1, 0), 0);
        CHECK.due("1 much", x.aim(1, 1), 9);
        CHECK.due("3 from", x.aim(3, 0), 0);
        CHECK.due("3 much", x.aim(3, 1), 9);
        x.move(0, 2);
        CHECK.due("all of three", x.aim(3, 0), 0);
        CHECK.due("two", x.aim(3, 1), 13);
        CHECK.due("tube stays", x.told(4), 0);
        CHECK.due("n 0", x.aim(0, 0), -2);
        CHECK.due("n 4", x.aim(4, 0), -2);
        CHECK.due("what 2", x.aim(1, 2), -1);
        CHECK.due("what -1", x.aim(1, -1), -1);
        CHECK.due("NONE ahead of BAD", x.aim(4, 2), -1);
    }

    private static void soonAtTheEdges() {
        CoinTelescope x = new CoinTelescope();
        x.thing(0, 0, 0);
        x.thing(0, 0, 23);
        x.thing(1, 0, 5);
        x.thing(1, 0, 1);
        x.thing(3, 9, 0);
        CHECK.due("where it points: 1", x.soon(0), 1);
        CHECK.due("farthest", x.soon(1), 8);
        CHECK.due("boat that comes around", x.soon(2), 1);
        CHECK.due("boat that goes ahead", x.soon(3), 5);
        CHECK.due("bird", x.soon(4), 3);
        x.had(0, true);
        CHECK.due("had, too", x.soon(0), 1);
        x.point(23);
        CHECK.due("back", x.soon(0), 8);
        CHECK.due("none", x.soon(5), -1);
        CHECK.due("-1", x.soon(-1), -1);
    }

    private static void soonThroughHaze() {
        CoinTelescope x = Check.withView("haze 3");
        x.thing(0, 0, 17);
        x.thing(5, 0, 17);
        x.thing(3, 1, 0);
        x.thing(3, 1, 18);
        CHECK.due("dim for ever", x.soon(0), -5);
        CHECK.due("spire", x.soon(1), 7);
        CHECK.due("bird that comes out", x.soon(2), 18);
        CHECK.due("bird that is too far till it comes again", x.soon(3), 24);
        CoinTelescope y = Check.withView("haze 4");
        y.thing(3, 1, 0);
        CHECK.due("all haze", y.soon(0), -5);
        CoinTelescope z = Check.withView("haze 3");
        z.thing(6, 0, 9);
        z.row(0, 3, 9);
        CHECK.due("only on tick 3 modulo 4", z.soon(0), 3);
        z.point(0);
        z.pass(1);
        CHECK.due("too far for the first time", z.soon(0), 6);
    }

    private static void order(String what, CoinTelescope x, int ticks, int... row) {
        CHECK.due(what, x.order(-1), ticks);
        for (int k = 0; k < 6; k++) {
            CHECK.due(what + ", thing " + k, x.order(k), k < row.length ? row[k] : -5);
        }
    }

    private static void orderFindsTheFewest() {
        CoinTelescope x = new CoinTelescope();
        x.point(2);
        x.thing(0, 0, 5);
        x.thing(0, 0, 0);
        order("left first", x, 7, 1, 0);
        x.point(3);
        order("right first", x, 7, 0, 1);
        x.thing(0, 0, 3);
        order("one on the way back", x, 7, 0, 2, 1);
        x.had(0, true);
        order("one had", x, 4, 2, 1);
        x.had(1, true);
        x.had(2, true);
        order("all had", x, 0);
        CoinTelescope y = new CoinTelescope();
        for (int i = 0; i < 6; i++) {
            y.thing(0, 0, 7);
        }
        order("six in one cell, a tick each", y, 7, 0, 1, 2, 3, 4, 5);
        CoinTelescope z = new CoinTelescope();
        z.thing(0, 0, 18);
        z.thing(1, 0, 10);
        order("the boat comes around", z, 4, 1, 0);
        CoinTelescope w = new CoinTelescope();
        w.thing(0, 0, 1);
        w.thing(1, 0, 12);
        order("the boat has gone on meanwhile", w, 6, 0, 1);
    }

    private static void orderAtTheEdges() {
        CoinTelescope x = new CoinTelescope();
        order("none", x, 0);
        CHECK.due("k 6", x.order(6), -1);
        CHECK.due("k -2", x.order(-2), -1);
        Check.view(x, "haze 2");
        x.thing(0, 0, 20);
        order("one", x, 5, 0);
        x.thing(0, 0, 3);
        order("one is dim", x, -5);
        x.had(1, true);
        order("it is had", x, 5, 0);
    }
}
