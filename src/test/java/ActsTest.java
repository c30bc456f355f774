/** Promises 28 to 30: act, trace, as. */
public final class ActsTest {
    private static final Check CHECK = new Check("ActsTest");
    private static final int SHOWS = 0, SHAKES = 1, TELLS = 2;

    public static void main(String[] args) {
        actsByKind();
        actsWrap();
        actsAreRefused();
        takenForAKind();
        CHECK.end();
    }

    /** Two things ahead of it, so that its number is 2. */
    private static CoinTelescope oneOf(int kind, int v) {
        CoinTelescope x = new CoinTelescope();
        x.thing(0, 0, 0);
        x.thing(0, 0, 0);
        x.thing(kind, v, 0);
        return x;
    }

    private static void act(int kind, int act, int x, int want, int... bodies) {
        CoinTelescope scope = oneOf(kind, 5);
        String what = "kind " + kind + " act " + act;
        CHECK.due(what, scope.act(2, act, x), want);
        CHECK.due(what + " ran", scope.count(6), bodies.length);
        for (int i = 0; i < bodies.length; i++) {
            CHECK.due(what + " body " + i, scope.trace(i), bodies[i]);
        }
        CHECK.due(what + " no more", scope.trace(bodies.length), -1);
        CHECK.due(what + " body -1", scope.trace(-1), -1);
    }

    private static void actsByKind() {
        act(0, SHOWS, 10, 12, 1);
        act(0, SHAKES, 10, 7, 2, 1);
        act(0, TELLS, 10, 14, 3, 2, 1);
        act(1, SHOWS, 10, 32, 11, 1);
        act(1, SHAKES, 10, 27, 2, 11, 1);
        act(1, TELLS, 10, 54, 3, 2, 11, 1);
        act(2, SHOWS, 10, 12, 1);
        act(2, SHAKES, 10, -7, 21, 2, 1);
        act(2, TELLS, 10, -14, 3, 21, 2, 1);
        act(3, SHOWS, 10, 12, 1);
        act(3, SHAKES, 10, 7, 2, 1);
        act(3, TELLS, 10, 14 ^ 7, 31, 3, 2, 1);
        act(4, SHOWS, 10, 32, 11, 1);
        act(4, SHAKES, 10, 27, 2, 11, 1);
        act(4, TELLS, 10, (29 - 5) * 2 + 8, 41, 3, 2, 11, 1, 11, 1);
        act(5, SHOWS, 10, 12 ^ 2, 51, 1);
        act(5, SHAKES, 10, -((12 ^ 2) - 5), 21, 2, 51, 1);
        act(5, TELLS, 10, -((12 ^ 2) - 5) * 2, 3, 21, 2, 51, 1);
        act(6, SHOWS, 10, 12, 1);
        act(6, SHAKES, 10, 12, 61, 2, 1);
        act(6, TELLS, 10, 24 ^ 7, 31, 3, 61, 2, 1);
    }

    private static void actsWrap() {
        int most = Integer.MAX_VALUE, least = Integer.MIN_VALUE;
        CHECK.due("most shows", oneOf(0, 0).act(2, SHOWS, most), most + 2);
        CHECK.due("most boat", oneOf(1, 0).act(2, SHOWS, most), most * 3 + 2);
        CHECK.due("least house", oneOf(2, 2).act(2, SHAKES, least), least);
        CHECK.due("least ship", oneOf(4, 9).act(2, TELLS, least), ((least - 1) * 3 + 2 - 9) * 2 + 8);
    }

    private static void actsAreRefused() {
        CoinTelescope x = oneOf(0, 5);
        x.act(2, TELLS, 1);
        CHECK.due("ran", x.count(6), 3);
        CHECK.due("no such thing", x.act(3, SHOWS, 1), 0);
        CHECK.due("no trace then", x.trace(0), -1);
        CHECK.due("none ran", x.count(6), 0);
        x.act(2, TELLS, 1);
        CHECK.due("no such act", x.act(2, 3, 1), 0);
        CHECK.due("no trace then, too", x.count(6), 0);
        CHECK.due("act -1", x.act(2, -1, 1), 0);
        CHECK.due("thing -1", x.act(-1, 0, 1), 0);
        x.act(2, TELLS, 1);
        x.act(2, SHOWS, 1);
        CHECK.due("only the latest", x.count(6), 1);
        CHECK.due("its body", x.trace(0), 1);
        CHECK.due("i 20", x.trace(20), -1);
        CHECK.due("i most", x.trace(Integer.MAX_VALUE), -1);
        CHECK.due("i least", x.trace(Integer.MIN_VALUE), -1);
    }

    private static void takenForAKind() {
        int[][] above = {{0}, {0, 1}, {0, 2}, {0, 3}, {0, 1, 4}, {0, 2, 5}, {0, 3, 6}};
        for (int kind = 0; kind < 7; kind++) {
            CoinTelescope x = oneOf(kind, 8);
            for (int k = 0; k < 7; k++) {
                boolean is = false;
                for (int one : above[kind]) {
                    is |= one == k;
                }
                CHECK.due("kind " + kind + " as " + k, x.as(2, k), is ? 8 : -6);
            }
            CHECK.due("as 7", x.as(2, 7), -1);
            CHECK.due("as -1", x.as(2, -1), -1);
            CHECK.due("thing 3", x.as(3, 0), -1);
            CHECK.due("thing -1", x.as(-1, 0), -1);
        }
    }
}
