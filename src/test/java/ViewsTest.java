/** Promises 1 to 3: a new object, feed, view. */
public final class ViewsTest {
    private static final Check CHECK = new Check("ViewsTest");

    public static void main(String[] args) {
        aNewObjectIsEmpty();
        feedTakesSigns();
        feedIsFullAtAHundred();
        viewsAreNumbered();
        viewIsFullAheadOfAll();
        lastOfCoinAddsHazeHolds();
        faultsAreAtTheirPlaces();
        depthIsHeldAtFive();
        clausesAreTenAtMost();
        aFaultLeavesTheViewThatHeld();
        conditionsHold();
        CHECK.end();
    }

    private static void aNewObjectIsEmpty() {
        CoinTelescope x = new CoinTelescope();
        for (int what = 0; what <= 6; what++) {
            CHECK.due("new count " + what, x.count(what), 0);
        }
        int[] want = {0, 8, 0, 0, 0, 0, 0, 0, 0, 0};
        for (int what = 0; what < want.length; what++) {
            CHECK.due("new told " + what, x.told(what), want[what]);
        }
        CHECK.due("new of", x.of(0, 0), -1);
        CHECK.due("new undo", x.undo(), -3);
        CHECK.due("new trace", x.trace(0), -1);
        CHECK.due("new looked", x.looked(), -5);
        CHECK.due("constants", CoinTelescope.NO, Long.MIN_VALUE);
    }

    private static void feedTakesSigns() {
        CoinTelescope x = new CoinTelescope();
        CHECK.due("feed 0", x.feed(0), 1);
        CHECK.due("feed 127", x.feed(127), 2);
        CHECK.due("feed -1", x.feed(-1), -2);
        CHECK.due("feed 128", x.feed(128), -2);
        CHECK.due("feed least", x.feed(Integer.MIN_VALUE), -2);
        CHECK.due("signs", x.count(5), 2);
    }

    private static void feedIsFullAtAHundred() {
        CoinTelescope x = new CoinTelescope();
        for (int i = 1; i <= 100; i++) {
            CHECK.due("feed nr " + i, x.feed('a'), i);
        }
        CHECK.due("feed nr 101", x.feed('a'), -4);
        CHECK.due("BAD ahead of FULL", x.feed(128), -2);
        CHECK.due("still 100", x.count(5), 100);
        CHECK.due("fault at 1", x.view(), -11);
        CHECK.due("empty then", x.count(5), 0);
    }

    private static void viewsAreNumbered() {
        CoinTelescope x = new CoinTelescope();
        for (int i = 0; i < 5; i++) {
            CHECK.due("view nr " + i, Check.view(x, "coin " + (i + 1)), i);
            CHECK.due("newest holds", x.told(1), i + 1);
            CHECK.due("tape empty", x.count(5), 0);
            CHECK.due("views", x.count(1), i + 1);
        }
    }

    private static void viewIsFullAheadOfAll() {
        CoinTelescope x = new CoinTelescope();
        for (int i = 0; i < 5; i++) {
            Check.view(x, "adds 1");
        }
        Check.feed(x, "wrong");
        CHECK.due("view full", x.view(), -4);
        CHECK.due("tape stays", x.count(5), 5);
    }

    private static void lastOfCoinAddsHazeHolds() {
        CoinTelescope x = Check.withView("coin 3;adds 4;haze 2;coin 77;adds 0;haze 99;coin 0");
        CHECK.due("coin 0 is 1", x.told(1), 1);
        CHECK.due("adds", x.told(2), 0);
        CHECK.due("haze", x.told(3), 99);
        Check.view(x, "dear 1 p=1");
        CHECK.due("coin without", x.told(1), 8);
        CHECK.due("haze without", x.told(3), 0);
    }

    private static void fault(String text, int place) {
        CoinTelescope x = new CoinTelescope();
        CHECK.due("view of '" + text + "'", Check.view(x, text), -10 - place);
        CHECK.due("no view after '" + text + "'", x.count(1), 0);
        CHECK.due("empty tape after '" + text + "'", x.count(5), 0);
    }

    private static void faultsAreAtTheirPlaces() {
        fault("", 0);
        fault(" ", 0);
        fault("x", 0);
        fault(";", 0);
        fault("c", 1);
        fault("d", 1);
        fault("dx", 1);
        fault("de", 2);
        fault("dul", 3);
        fault("duar 1 p=1", 2);
        fault("dell 1 p=1", 2);
        fault("haze", 4);
        fault("hazes 1", 4);
        fault("haze1", 4);
        fault("haze ", 5);
        fault("haze  1", 5);
        fault("haze a", 5);
        fault("haze -1", 5);
        fault("haze :", 5);
        fault("haze /", 5);
        fault("haze 1:", 6);
        fault("haze 1/", 6);
        fault("haze 00", 6);
        fault("haze 100", 7);
        fault("haze 1 ", 6);
        fault("haze 1,", 6);
        fault("haze 1;", 7);
        fault("haze 1; adds 1", 7);
        fault("haze 1;;", 7);
        fault("coin 1 p=1", 6);
        fault("Coin 1", 0);
        fault("dear 1", 6);
        fault("dear 1;", 6);
        fault("dear 1 ", 7);
        fault("dear 1  p=1", 7);
        fault("dear 1p=1", 6);
        fault("dear 1 q=1", 7);
        fault("dear 1 p", 8);
        fault("dear 1 p1", 8);
        fault("dear 1 p =1", 8);
        fault("dear 1 p=", 9);
        fault("dear 1 p= 1", 9);
        fault("dear 1 p==1", 9);
        fault("dear 1 p=01", 10);
        fault("dear 1 p=123", 11);
        fault("dear 1 p=1 ", 10);
        fault("dear 1 p=:", 9);
        fault("dear 1 p=1)", 10);
        fault("dear 1 p=1&", 11);
        fault("dear 1 p=1&&p=1", 11);
        fault("dear 1 p=1||p=1", 11);
        fault("dear 1 p=1!p=1", 10);
        fault("dear 1 ()", 8);
        fault("dear 1 (p=1", 11);
        fault("dear 1 (p=1;", 11);
        fault("dear 1 (p=1))", 12);
        fault("dear 1 (p=1)1", 12);
        fault("dear 1 !", 8);
        fault("dear 1 !)", 8);
        fault("dear 1 p=1|", 11);
        fault("dear 1 p=1;dear 1 !(p=1&(v<3|c>7)", 33);
        fault("dear 1 p=1\u0000", 10);
        fault("\u007f", 0);
    }

    private static void reads(String text) {
        CHECK.due("view of '" + text + "'", Check.view(new CoinTelescope(), text), 0);
    }

    private static void depthIsHeldAtFive() {
        reads("dear 1 !!!!!p=1");
        fault("dear 1 !!!!!!p=1", 12);
        reads("dear 1 (((((p=1)))))");
        fault("dear 1 ((((((p=1))))))", 12);
        reads("dear 1 !(!(!p=1))");
        fault("dear 1 !(!(!(p=1)))", 12);
        reads("dear 1 !(!(!p=1&!p=2)|!v=3)");
        reads("dear 1 !!!!!p=1&!!!!!p=1|!!!!!p=1");
        reads("dear 1 (((((p=1))))&(p=1))");
        reads("dear 1 ((((p=1)&!p=1)&!p=1)&!p=1)");
        fault("dear 1 (((((p=1&!p=1)))))", 16);
        reads("dear 1 ((((!p=1&!p=1))))&!!!!!t<1");
    }

    private static void clausesAreTenAtMost() {
        reads("adds 1;adds 1;adds 1;adds 1;adds 1;adds 1;adds 1;adds 1;adds 1;adds 1");
        fault("adds 1;adds 1;adds 1;adds 1;adds 1;adds 1;adds 1;adds 1;adds 1;adds 1;", 69);
        fault("adds 1;adds 1;adds 1;adds 1;adds 1;adds 1;adds 1;adds 1;adds 1;adds 1;adds 1", 69);
        String hundred = "dear 1 " + "p<9|".repeat(22) + "p<99";
        CHECK.due("the test's own text", hundred.length(), 99);
        reads(hundred);
        fault(hundred + "|", 100);
    }

    private static void aFaultLeavesTheViewThatHeld() {
        CoinTelescope x = Check.withView("coin 5;haze 1");
        CHECK.due("fault in the second clause", Check.view(x, "coin 9;hazy 3"), -20);
        CHECK.due("coin stays", x.told(1), 5);
        CHECK.due("haze stays", x.told(3), 1);
        CHECK.due("views stay", x.count(1), 1);
        CHECK.due("next number", Check.view(x, "coin 6"), 1);
    }

    /** BASE of thing 2 (kind 1, v 7, on tick 13 at cell 9 when it comes from 8, 4 ticks left). */
    private static int baseBy(String text) {
        CoinTelescope x = Check.withView(text);
        x.thing(0, 0, 0);
        x.thing(0, 0, 0);
        x.thing(1, 7, 8);
        x.pass(13);
        x.pay();
        x.pass(0);
        x.tick(0);
        return x.then(2, 0, 2);
    }

    private static void condition(String e, boolean holds) {
        CHECK.due("dear 9 " + e, baseBy("coin 5;dear 9 " + e), holds ? 9 : 0);
        CHECK.due("dull 9 " + e, baseBy("coin 5;dull 9 " + e), holds ? -9 : 0);
    }

    private static void conditionsHold() {
        condition("p=2", true);
        condition("p<2", false);
        condition("p>1", true);
        condition("p>2", false);
        condition("k=1", true);
        condition("k=0", false);
        condition("v=7", true);
        condition("v<8", true);
        condition("v<7", false);
        condition("c=10", true);
        condition("c>9", true);
        condition("t=4", true);
        condition("t=14", false);
        condition("l=4", true);
        condition("l>4", false);
        condition("!p=2", false);
        condition("!!p=2", true);
        condition("p=1|v=0", false);
        condition("p=1|v=7", true);
        condition("p=2|v=0", true);
        condition("p=2&v=0", false);
        condition("p=1&v=7", false);
        condition("p=2|p=1&v=0", true);
        condition("(p=2|p=1)&v=0", false);
        condition("p=1&v=0|k=1", true);
        condition("p=1&(v=0|k=1)", false);
        condition("!p=1&v=0", false);
        condition("!(p=1&v=0)", true);
        condition("!p=1|v=0", true);
        condition("p=1|v=0|t=4", true);
        condition("p=2&v=7&t=5", false);
        condition("p<99", true);
        condition("p>0&(k=0|(v>6&!(c<10|t=0)))", true);
        CHECK.due("together", baseBy("dear 50 p=2;dull 99 k=1;dear 7 v=7;dear 80 v=6;dull 1 p<9"), 50 - 99 + 7 - 1);
    }
}
