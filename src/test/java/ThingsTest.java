/** Promises 4 to 9: thing, of, then, row, move, had. */
public final class ThingsTest {
    private static final Check CHECK = new Check("ThingsTest");
    private static final int MIN = Integer.MIN_VALUE, MAX = Integer.MAX_VALUE;

    public static void main(String[] args) {
        thingsAreMade();
        thingsAreRefused();
        ofTellsAll();
        placesByKind();
        placesAtTheEdges();
        dimByHaze();
        worthByKind();
        worthIsHeldAtZeroInTheEnd();
        thenIsRefused();
        rowOfATold();
        moveAndHad();
        CHECK.end();
    }

    private static void thingsAreMade() {
        CoinTelescope x = new CoinTelescope();
        for (int i = 0; i < 6; i++) {
            CHECK.due("thing nr " + i, x.thing(6 - i, 9, 23), i);
            CHECK.due("things", x.count(0), i + 1);
        }
        CHECK.due("full", x.thing(0, 0, 0), -4);
        CHECK.due("NONE ahead of FULL", x.thing(7, 0, 0), -1);
        CHECK.due("BAD ahead of FULL", x.thing(0, -1, 0), -2);
    }

    private static void thingsAreRefused() {
        CoinTelescope x = new CoinTelescope();
        CHECK.due("kind -1", x.thing(-1, 0, 0), -1);
        CHECK.due("kind 7", x.thing(7, 0, 0), -1);
        CHECK.due("cell -1", x.thing(0, 0, -1), -1);
        CHECK.due("cell 24", x.thing(0, 0, 24), -1);
        CHECK.due("cell ahead of v", x.thing(0, 10, 24), -1);
        CHECK.due("v 10", x.thing(0, 10, 0), -2);
        CHECK.due("v -1", x.thing(0, -1, 0), -2);
        CHECK.due("wild", x.thing(MIN, MAX, MIN), -1);
        CHECK.due("none made", x.count(0), 0);
    }

    private static void ofTellsAll() {
        CoinTelescope x = new CoinTelescope();
        x.thing(4, 3, 17);
        CHECK.due("kind", x.of(0, 0), 4);
        CHECK.due("v", x.of(0, 1), 3);
        CHECK.due("cell", x.of(0, 2), 17);
        CHECK.due("had", x.of(0, 3), 0);
        x.had(0, true);
        CHECK.due("had then", x.of(0, 3), 1);
        x.pass(5);
        CHECK.due("comes from", x.of(0, 2), 17);
        for (int bad : new int[] {-1, 4, MIN, MAX}) {
            CHECK.due("of what " + bad, x.of(0, bad), -1);
        }
        for (int bad : new int[] {-1, 1, 6, MIN, MAX}) {
            CHECK.due("of thing " + bad, x.of(bad, 0), -1);
        }
    }

    private static void placesByKind() {
        CoinTelescope x = new CoinTelescope();
        x.thing(0, 5, 7);
        x.thing(1, 5, 7);
        x.thing(2, 5, 7);
        x.thing(3, 5, 7);
        x.thing(4, 5, 7);
        x.thing(6, 5, 7);
        x.row(5, 3, 9);
        int[][] due = {
            {7, 7, 7, 7, 7},
            {7, 8, 9, 10, 11},
            {7, 7, 7, 7, 7},
            {7, 12, 17, 22, 3},
            {7, 7, 8, 8, 9},
            {7, 12, 17, 7, 3},
        };
        for (int i = 0; i < due.length; i++) {
            for (int n = 0; n < due[i].length; n++) {
                CHECK.due("thing " + i + " in " + n, x.then(i, n, 0), due[i][n]);
            }
        }
        x.pass(3);
        for (int i = 0; i < due.length; i++) {
            CHECK.due("thing " + i + " 3 ticks later", x.then(i, 0, 0), due[i][3]);
            CHECK.due("thing " + i + " 4 ticks later", x.then(i, 1, 0), due[i][4]);
        }
    }

    private static void placesAtTheEdges() {
        CoinTelescope x = new CoinTelescope();
        x.thing(1, 0, 5);
        x.thing(1, 0, 23);
        x.thing(4, 0, 11);
        x.thing(5, 9, 3);
        x.thing(3, 0, 9);
        x.thing(6, 9, 23);
        CHECK.due("boat behind 5", x.then(0, 1, 0), 0);
        CHECK.due("boat of row 3", x.then(1, 1, 0), 18);
        CHECK.due("boat around", x.then(1, 6, 0), 23);
        CHECK.due("ship on 1", x.then(2, 1, 0), 11);
        CHECK.due("ship on 2", x.then(2, 2, 0), 6);
        CHECK.due("spire", x.then(3, 59, 0), 3);
        CHECK.due("bird of v 0", x.then(4, 60, 0), 9);
        x.row(5, 0, 1);
        CHECK.due("told behind 23", x.then(5, 0, 0), 0);
        CHECK.due("told in 60", x.then(5, 60, 0), (23 + 540 + 1) % 24);
        for (int i = 0; i < 166; i++) {
            x.pass(60);
        }
        CHECK.due("tick", x.told(0), 9960);
        CHECK.due("beyond 9999", x.then(5, 60, 0), (23 + 9 * 10020 + 1) % 24);
        CHECK.due("ship beyond 9999", x.then(2, 60, 0), 6 + (5 + 5010) % 6);
    }

    private static void dimByHaze() {
        CoinTelescope x = Check.withView("haze 2");
        x.thing(0, 0, 11);
        x.thing(0, 0, 12);
        x.thing(5, 0, 0);
        x.thing(3, 6, 6);
        x.thing(2, 0, 6);
        CHECK.due("row 1", x.then(0, 0, 1), 1);
        CHECK.due("row 2", x.then(1, 0, 1), 0);
        CHECK.due("spire", x.then(2, 0, 1), 0);
        CHECK.due("house", x.then(4, 0, 1), 1);
        CHECK.due("bird now", x.then(3, 0, 1), 1);
        CHECK.due("bird then", x.then(3, 1, 1), 0);
        CHECK.due("bird around", x.then(3, 3, 1), 1);
        Check.view(x, "haze 0");
        CHECK.due("no haze", x.then(0, 0, 1), 0);
        Check.view(x, "haze 99");
        CHECK.due("all haze", x.then(1, 0, 1), 1);
        CHECK.due("spire in all haze", x.then(2, 0, 1), 0);
    }

    private static CoinTelescope oneOfEach(String view, int v, int cell) {
        CoinTelescope x = Check.withView(view);
        for (int kind = 1; kind <= 6; kind++) {
            x.thing(kind, v, cell);
        }
        return x;
    }

    private static void worths(CoinTelescope x, int... due) {
        for (int i = 0; i < due.length; i++) {
            CHECK.due("worth of kind " + (i + 1), x.then(i, 0, 3), due[i]);
        }
    }

    private static void worthByKind() {
        worths(oneOfEach("haze 0", 3, 13), 5, 2, 3, 5, 5, 4);
        worths(oneOfEach("dear 7 p<9", 3, 13), 12, 5, 10, 12, 8, 11);
        worths(oneOfEach("dear 7 p<9", 3, 12), 12, 5, 10, 24, 8, 11);
        CoinTelescope x = Check.withView("dear 7 p<9");
        x.thing(0, 9, 0);
        CHECK.due("thing", x.then(0, 0, 3), 11);
        CHECK.due("its base", x.then(0, 0, 2), 7);
        CoinTelescope then = Check.withView("dear 9 t=2;dull 3 c=9");
        then.thing(1, 0, 6);
        CHECK.due("in 2", then.then(0, 2, 3), 14);
        CHECK.due("in 3", then.then(0, 3, 3), 2);
        CHECK.due("in 12", then.then(0, 12, 3), 14);
    }

    private static void worthIsHeldAtZeroInTheEnd() {
        worths(oneOfEach("dull 9 p<9", 9, 13), 0, 0, 0, 0, 7, 1);
        worths(oneOfEach("dull 7 p<9", 9, 13), 0, 0, 2, 0, 8, 3);
        worths(oneOfEach("dull 99 p<9", 9, 12), 0, 0, 0, 0, 0, 0);
        CHECK.due("base below 0", oneOfEach("dull 99 p<9;dull 99 v=9", 9, 12).then(0, 0, 2), -198);
    }

    private static void thenIsRefused() {
        CoinTelescope x = new CoinTelescope();
        x.thing(0, 0, 0);
        CHECK.due("n 60", x.then(0, 60, 0), 0);
        CHECK.due("n 61", x.then(0, 61, 0), -999999);
        CHECK.due("n -1", x.then(0, -1, 0), -999999);
        CHECK.due("thing 1", x.then(1, 0, 0), -999999);
        CHECK.due("thing -1", x.then(-1, 0, 0), -999999);
        CHECK.due("what 4", x.then(0, 0, 4), -999999);
        CHECK.due("what -1", x.then(0, 0, -1), -999999);
        CHECK.due("wild", x.then(MAX, MIN, MAX), -999999);
    }

    private static void rowOfATold() {
        CoinTelescope x = new CoinTelescope();
        x.thing(6, 0, 0);
        x.thing(3, 0, 0);
        CHECK.due("was 0", x.row(0, 2, 9), 0);
        CHECK.due("was 9", x.row(0, 2, 4), 9);
        CHECK.due("was 4", x.row(0, 2, 4), 4);
        CHECK.due("moves", x.then(0, 2, 0), 4);
        CHECK.due("moves again", x.then(0, 6, 0), 4);
        CHECK.due("not on 3", x.then(0, 3, 0), 0);
        CHECK.due("k 4", x.row(0, 4, 0), -1);
        CHECK.due("k -1", x.row(0, -1, 0), -1);
        CHECK.due("no such thing", x.row(2, 0, 0), -1);
        CHECK.due("n 10", x.row(0, 0, 10), -2);
        CHECK.due("n -1", x.row(0, 0, -1), -2);
        CHECK.due("BAD ahead of STATE", x.row(1, 0, 10), -2);
        CHECK.due("NONE ahead of BAD", x.row(1, 4, 10), -1);
        CHECK.due("a bird", x.row(1, 0, 1), -3);
        CHECK.due("nothing changed", x.row(0, 0, 0), 0);
    }

    private static void moveAndHad() {
        CoinTelescope x = new CoinTelescope();
        x.thing(1, 0, 3);
        x.thing(0, 0, 4);
        CHECK.due("move", x.move(0, 20), 3);
        CHECK.due("moved", x.move(0, 21), 20);
        CHECK.due("is at", x.then(0, 1, 0), 22);
        CHECK.due("other stays", x.of(1, 2), 4);
        CHECK.due("cell 24", x.move(0, 24), -1);
        CHECK.due("cell -1", x.move(0, -1), -1);
        CHECK.due("thing 2", x.move(2, 0), -1);
        CHECK.due("not had", x.had(0, true), 0);
        CHECK.due("had", x.had(0, true), 1);
        CHECK.due("bits", x.told(8), 1);
        CHECK.due("other", x.had(1, true), 0);
        CHECK.due("both", x.told(8), 3);
        CHECK.due("had till now", x.had(0, false), 1);
        CHECK.due("one", x.told(8), 2);
        CHECK.due("had none", x.had(2, true), -1);
        CHECK.due("had -1", x.had(-1, true), -1);
        CHECK.due("no gain by hand", x.told(7), 0);
    }
}
