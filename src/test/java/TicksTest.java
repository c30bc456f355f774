/** Promises 10 to 14: point, told, pay, tick, pass. */
public final class TicksTest {
    private static final Check CHECK = new Check("TicksTest");

    public static void main(String[] args) {
        pointing();
        toldAndItsEdges();
        payWithoutAdding();
        payWithAdding();
        movesOfTheTube();
        ticksSee();
        ticksAreRefused();
        leftIsLookedAtAheadOfTheTick();
        passing();
        CHECK.end();
    }

    private static void pointing() {
        CoinTelescope x = new CoinTelescope();
        CHECK.due("from 0", x.point(23), 0);
        CHECK.due("from 23", x.point(0), 23);
        CHECK.due("24", x.point(24), -1);
        CHECK.due("-1", x.point(-1), -1);
        CHECK.due("stays", x.told(4), 0);
        x.thing(0, 0, 5);
        x.point(5);
        CHECK.due("nothing is seen by pointing", x.told(8), 0);
    }

    private static void toldAndItsEdges() {
        CoinTelescope x = new CoinTelescope();
        CHECK.due("-1", x.told(-1), -1);
        CHECK.due("10", x.told(10), -1);
        CHECK.due("least", x.told(Integer.MIN_VALUE), -1);
        x.pay();
        x.pay();
        x.pass(3);
        CHECK.due("tick", x.told(0), 3);
        CHECK.due("left", x.told(5), 5);
        CHECK.due("coins", x.told(6), 2);
        CHECK.due("lost is left", x.told(9), 5);
    }

    private static void payWithoutAdding() {
        CoinTelescope x = Check.withView("coin 99");
        CHECK.due("pay", x.pay(), 99);
        x.pass(9);
        CHECK.due("lost", x.told(9), 90);
        CHECK.due("pay again", x.pay(), 99);
        Check.view(x, "coin 0");
        CHECK.due("lost 99", x.told(9), 99);
        CHECK.due("coin 0 is 1", x.pay(), 1);
        CHECK.due("coins", x.told(6), 3);
    }

    private static void payWithAdding() {
        CoinTelescope x = Check.withView("coin 60;adds 99");
        CHECK.due("lost at first", x.told(9), 0);
        CHECK.due("pay", x.pay(), 60);
        CHECK.due("lost", x.told(9), 21);
        CHECK.due("99 at most", x.pay(), 99);
        CHECK.due("all lost", x.told(9), 60);
        x.pass(60);
        CHECK.due("39 and 60", x.told(9), 0);
        CHECK.due("no more", x.pay(), 99);
        CoinTelescope one = Check.withView("coin 5;adds 1");
        one.pay();
        CHECK.due("adds 1 adds, too", one.pay(), 10);
        Check.view(one, "coin 5;adds 0");
        CHECK.due("adds 0 does not", one.pay(), 5);
    }

    private static void movesOfTheTube() {
        CoinTelescope x = Check.withView("coin 99");
        x.pay();
        int[][] due = {
            {0, 0, 0}, {0, 1, 0}, {0, 2, 1}, {0, 3, 6}, {0, 4, 0},
            {5, 1, 5}, {5, 2, 5}, {5, 3, 11}, {5, 4, 4},
            {23, 0, 23}, {23, 1, 17}, {23, 2, 23}, {23, 3, 23}, {23, 4, 22},
            {18, 1, 12}, {18, 2, 19}, {18, 3, 18}, {18, 4, 18},
            {8, 0, 8}, {8, 1, 2}, {8, 2, 9}, {8, 3, 14}, {8, 4, 7},
        };
        for (int[] one : due) {
            x.point(one[0]);
            x.tick(one[1]);
            CHECK.due("from " + one[0] + " by " + one[1], x.told(4), one[2]);
        }
        CHECK.due("tick", x.told(0), due.length);
        CHECK.due("left", x.told(5), 99 - due.length);
    }

    private static void ticksSee() {
        CoinTelescope x = Check.withView("coin 9;haze 1;dear 2 c=8");
        x.thing(1, 0, 7);
        x.thing(0, 0, 8);
        x.thing(0, 0, 2);
        x.thing(5, 4, 2);
        x.thing(2, 0, 8);
        x.had(4, true);
        x.pay();
        x.point(2);
        CHECK.due("boat and thing on the next tick", x.tick(3), 7 + 6);
        CHECK.due("had", x.told(8), 16 + 3);
        CHECK.due("no second time", x.tick(0), 0);
        CHECK.due("the spire, not the dim one", x.tick(1), 2 + 4);
        CHECK.due("had then", x.told(8), 16 + 8 + 3);
        CHECK.due("gain", x.told(7), 19);
        CHECK.due("dim one seen later", Check.view(x, "haze 0"), 1);
        CHECK.due("now", x.tick(0), 4);
        x.had(1, false);
        x.point(8);
        CHECK.due("seen again", x.tick(0), 4);
        CHECK.due("gain again", x.told(7), 27);
    }

    private static void ticksAreRefused() {
        CoinTelescope x = new CoinTelescope();
        CHECK.due("black", x.tick(0), -3);
        CHECK.due("5", x.tick(5), -1);
        CHECK.due("-1", x.tick(-1), -1);
        x.pay();
        CHECK.due("5, paid", x.tick(5), -1);
        for (int i = 0; i < 8; i++) {
            CHECK.due("paid " + i, x.tick(2), 0);
        }
        CHECK.due("black again", x.tick(2), -3);
        CHECK.due("tube", x.told(4), 5);
        for (int i = 0; i < 166; i++) {
            x.pass(60);
        }
        x.pass(30);
        x.pay();
        CHECK.due("9998", x.told(0), 9998);
        CHECK.due("to 9999", x.tick(0), 0);
        CHECK.due("9999", x.told(0), 9999);
        CHECK.due("no tick then", x.tick(0), -3);
        CHECK.due("left stays", x.told(5), 7);
        CHECK.due("no black tick then", x.pass(1), -3);
        CHECK.due("none is fine", x.pass(0), 7);
    }

    private static void leftIsLookedAtAheadOfTheTick() {
        CoinTelescope x = Check.withView("coin 3;dear 10 l=3;dear 20 l=2");
        x.thing(0, 0, 0);
        x.pay();
        CHECK.due("l is 3", x.tick(0), 14);
        x.had(0, false);
        CHECK.due("l is 2", x.tick(0), 24);
    }

    private static void passing() {
        CoinTelescope x = new CoinTelescope();
        x.thing(0, 0, 0);
        x.pay();
        CHECK.due("0", x.pass(0), 8);
        CHECK.due("3", x.pass(3), 5);
        CHECK.due("nothing seen", x.told(8), 0);
        CHECK.due("tick", x.told(0), 3);
        CHECK.due("60", x.pass(60), 0);
        CHECK.due("tick 63", x.told(0), 63);
        CHECK.due("61", x.pass(61), -2);
        CHECK.due("-1", x.pass(-1), -2);
        CHECK.due("tick stays", x.told(0), 63);
        for (int i = 0; i < 165; i++) {
            x.pass(60);
        }
        CHECK.due("9963", x.told(0), 9963);
        CHECK.due("beyond", x.pass(37), -3);
        CHECK.due("till 9999", x.pass(36), 0);
        CHECK.due("BAD ahead of STATE", x.pass(61), -2);
    }
}
