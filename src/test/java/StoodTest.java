/** Promises 19 to 23: stood, from, firm, odds, mean. */
public final class StoodTest {
    private static final Check CHECK = new Check("StoodTest");
    private static final int ALL = (1 << 24) - 1;
    private static final long NO = Long.MIN_VALUE;

    public static void main(String[] args) {
        stoodComes();
        fromByBoat();
        fromByOthers();
        firmByBird();
        stoodIsAskedFromNow();
        oddsByHaze();
        oddsAreRefused();
        means();
        CHECK.end();
    }

    private static void stoodComes() {
        CoinTelescope x = new CoinTelescope();
        CHECK.due("no thing", x.stood(0, 0, 0), -1);
        x.thing(0, 0, 0);
        CHECK.due("n 40", x.stood(0, 40, 23), 1);
        CHECK.due("n 41", x.stood(0, 41, 23), -2);
        CHECK.due("n -1", x.stood(0, -1, 23), -2);
        CHECK.due("cell 24", x.stood(0, 0, 24), -1);
        CHECK.due("NONE ahead of BAD", x.stood(0, 41, 24), -1);
        CHECK.due("thing -2", x.stood(-2, 0, 0), -1);
        for (int i = 2; i <= 5; i++) {
            CHECK.due("row " + i, x.stood(0, 0, 0), i);
        }
        CHECK.due("full", x.stood(0, 0, 0), -4);
        CHECK.due("BAD ahead of FULL", x.stood(0, 41, 0), -2);
        CHECK.due("count", x.count(2), 5);
        CHECK.due("none then", x.stood(-1, 99, -7), 0);
        CHECK.due("count 0", x.count(2), 0);
        CHECK.due("none again", x.stood(-1, 0, 0), 0);
    }

    private static void fromByBoat() {
        CoinTelescope x = new CoinTelescope();
        x.thing(1, 0, 0);
        x.thing(1, 0, 0);
        CHECK.due("all", x.from(0), ALL);
        x.stood(0, 2, 13);
        CHECK.due("13 in 2", x.from(0), 1 << 17);
        CHECK.due("the other", x.from(1), ALL);
        x.stood(0, 3, 14);
        CHECK.due("14 in 3", x.from(0), 1 << 17);
        x.stood(0, 3, 15);
        CHECK.due("15 in 3, too", x.from(0), 0);
        CHECK.due("none", x.from(2), -1);
        CHECK.due("-1", x.from(-1), -1);
        CHECK.due("it stays", x.of(0, 2), 0);
    }

    private static void fromByOthers() {
        CoinTelescope x = new CoinTelescope();
        x.thing(0, 9, 3);
        x.thing(3, 5, 3);
        x.thing(4, 5, 3);
        x.thing(6, 5, 3);
        x.row(3, 1, 2);
        x.stood(0, 7, 20);
        x.stood(1, 5, 1);
        x.stood(2, 5, 6);
        x.stood(3, 5, 1);
        CHECK.due("thing", x.from(0), 1 << 20);
        CHECK.due("bird", x.from(1), 1 << 0);
        CHECK.due("ship", x.from(2), 1 << 10);
        CHECK.due("told", x.from(3), 1 << 22);
    }

    private static void firmByBird() {
        CoinTelescope x = new CoinTelescope();
        x.thing(3, 1, 0);
        x.thing(0, 1, 0);
        x.thing(1, 4, 2);
        CHECK.due("all", x.firm(0, 0), 10);
        CHECK.due("least", x.firm(0, 1), 0);
        x.stood(0, 4, 12);
        CHECK.due("4 v is 12", x.firm(0, 0), 2);
        CHECK.due("3 or 9", x.firm(0, 1), 3);
        x.stood(0, 1, 9);
        CHECK.due("9", x.firm(0, 0), 1);
        CHECK.due("least 9", x.firm(0, 1), 9);
        x.stood(0, 0, 1);
        CHECK.due("none", x.firm(0, 0), 0);
        CHECK.due("no least", x.firm(0, 1), -5);
        CHECK.due("a thing, any v", x.firm(1, 0), 10);
        x.stood(2, 2, 4);
        CHECK.due("a boat, any v", x.firm(2, 0), 10);
        x.stood(2, 2, 5);
        CHECK.due("a boat, no v", x.firm(2, 0), 0);
        CHECK.due("thing 3", x.firm(3, 0), -1);
        CHECK.due("what 2", x.firm(0, 2), -1);
        CHECK.due("what -1", x.firm(0, -1), -1);
        CHECK.due("it stays", x.of(0, 1), 1);
    }

    private static void stoodIsAskedFromNow() {
        CoinTelescope x = new CoinTelescope();
        x.thing(1, 0, 0);
        x.stood(0, 2, 3);
        CHECK.due("on tick 0", x.from(0), 1 << 1);
        x.pass(1);
        CHECK.due("on tick 1", x.from(0), 1 << 0);
    }

    private static void odds(String what, CoinTelescope x, int n, int q, int above, int below) {
        CHECK.due(what + " above", x.odds(n, q, 0), above);
        CHECK.due(what + " below", x.odds(n, q, 1), below);
    }

    private static void oddsByHaze() {
        CoinTelescope x = Check.withView("haze 9");
        x.thing(0, 0, 6);
        x.thing(0, 0, 12);
        x.thing(0, 0, 18);
        odds("none", x, 3, 0, 1, 1);
        odds("12", x, 3, 12, 1, 2);
        odds("8", x, 3, 8, 3, 4);
        odds("4", x, 3, 4, 1, 1);
        odds("13", x, 3, 13, 0, 1);
        odds("4 by 1", x, 1, 4, 1, 2);
        odds("4 by 2", x, 2, 4, 3, 4);
        odds("8 by 2", x, 2, 8, 1, 2);
        x.had(0, true);
        x.move(2, 0);
        odds("8, one had", x, 3, 8, 1, 4);
        odds("0 by 0", x, 0, 0, 1, 1);
        odds("1 by 0", x, 0, 1, 0, 1);
        CHECK.due("haze stays", x.told(3), 9);
        CHECK.due("look with it", x.look(3, -1), 0);
    }

    private static void oddsAreRefused() {
        CoinTelescope x = new CoinTelescope();
        CHECK.due("n 4", x.odds(4, 0, 0), NO);
        CHECK.due("n -1", x.odds(-1, 0, 0), NO);
        CHECK.due("q 10000", x.odds(0, 10000, 0), NO);
        CHECK.due("q -1", x.odds(0, -1, 0), NO);
        CHECK.due("part 2", x.odds(0, 0, 2), NO);
        CHECK.due("part -1", x.odds(0, 0, -1), NO);
        odds("q 9999", x, 3, 9999, 0, 1);
    }

    private static void means() {
        CoinTelescope x = Check.withView("haze 4;dear 9 t=3;dull 99 p=5");
        CHECK.due("none", x.mean(0), NO);
        x.thing(0, 0, 0);
        x.thing(1, 0, 3);
        CHECK.due("9 by 2", x.mean(0), 9);
        CHECK.due("by 2", x.mean(1), 2);
        x.thing(2, 0, 3);
        x.thing(3, 1, 3);
        CHECK.due("12 by 4: 3", x.mean(0), 3);
        CHECK.due("1", x.mean(1), 1);
        x.pass(3);
        CHECK.due("13 14 6 10: 43", x.mean(0), 43);
        CHECK.due("4", x.mean(1), 4);
        x.had(0, true);
        CHECK.due("30 by 3", x.mean(0), 10);
        CHECK.due("part 2", x.mean(2), NO);
        CHECK.due("part -1", x.mean(-1), NO);
        x.thing(0, 0, 0);
        x.thing(0, 0, 0);
        for (int i = 0; i < 5; i++) {
            x.had(i, true);
        }
        CHECK.due("0 in lowest terms", x.mean(0), 0);
        CHECK.due("by 1", x.mean(1), 1);
        x.had(0, false);
        x.pass(1);
        CHECK.due("4 and 0 by 2", x.mean(0), 2);
        CHECK.due("by 1", x.mean(1), 1);
        x.had(0, true);
        x.had(5, true);
        CHECK.due("all had", x.mean(1), NO);
    }
}
