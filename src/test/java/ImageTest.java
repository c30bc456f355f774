/** Promises 31 to 33: image, undo, count. */
public final class ImageTest {
    private static final Check CHECK = new Check("ImageTest");

    public static void main(String[] args) {
        undoNeedsAnImage();
        undoBringsAllBack();
        theImageStays();
        theTraceIsNotInIt();
        countsAll();
        CHECK.end();
    }

    private static void undoNeedsAnImage() {
        CoinTelescope x = new CoinTelescope();
        x.thing(0, 0, 0);
        CHECK.due("none", x.undo(), -3);
        CHECK.due("nothing changed", x.count(0), 1);
        CHECK.due("image", x.image(), 1);
        x.thing(0, 0, 0);
        CHECK.due("image of two", x.image(), 2);
        x.thing(0, 0, 0);
        CHECK.due("undo", x.undo(), 2);
    }

    private static CoinTelescope aBusyOne() {
        CoinTelescope x = Check.withView("coin 9;adds 1;haze 1;dear 3 p=0");
        x.thing(6, 2, 12);
        x.thing(1, 1, 18);
        x.row(0, 1, 3);
        x.had(1, true);
        x.pay();
        x.point(10);
        x.tick(3);
        x.stood(0, 3, 4);
        x.plan(2);
        x.book(1, 19);
        Check.feed(x, "coin");
        return x;
    }

    private static void isBusyOne(String what, CoinTelescope x) {
        int[] told = {1, 9, 1, 1, 16, 8, 1, 0, 2, 0};
        for (int i = 0; i < told.length; i++) {
            CHECK.due(what + " told " + i, x.told(i), told[i]);
        }
        int[] counts = {2, 1, 1, 1, 1, 4};
        for (int i = 0; i < counts.length; i++) {
            CHECK.due(what + " count " + i, x.count(i), counts[i]);
        }
        CHECK.due(what + " kind", x.of(0, 0), 6);
        CHECK.due(what + " comes from", x.of(0, 2), 12);
        CHECK.due(what + " row", x.then(0, 0, 0), 12 + 2 + 3);
        CHECK.due(what + " worth", x.then(0, 0, 3), 2 + 1 + 3);
        CHECK.due(what + " done", x.done(1), 17);
        CHECK.due(what + " looked", x.looked(), -5);
        CHECK.due(what + " from", x.from(0), 1 << 20);
    }

    private static void undoBringsAllBack() {
        CoinTelescope x = aBusyOne();
        isBusyOne("ahead", x);
        CHECK.due("image", x.image(), 2);
        isBusyOne("by the image", x);
        Check.feed(x, " 3;haze 4");
        CHECK.due("second view", x.view(), 1);
        x.thing(2, 2, 2);
        x.row(0, 1, 8);
        x.move(0, 3);
        x.had(0, true);
        x.had(1, false);
        x.point(0);
        x.pay();
        x.tick(2);
        x.pass(7);
        x.stood(-1, 0, 0);
        x.plan(-1);
        x.plan(4);
        x.plan(4);
        x.book(0, 0);
        x.book(-1, 0);
        x.book(2, 3);
        CHECK.due("undo", x.undo(), 2);
        isBusyOne("undone", x);
        CHECK.due("third thing is gone", x.of(2, 0), -1);
        CHECK.due("a third one anew", x.thing(6, 1, 1), 2);
        CHECK.due("with a row of zeros", x.row(2, 1, 0), 0);
        Check.feed(x, " 3");
        CHECK.due("the tape goes on", x.view(), 1);
        CHECK.due("coin", x.told(1), 3);
    }

    private static void theImageStays() {
        CoinTelescope x = aBusyOne();
        x.image();
        for (int i = 0; i < 3; i++) {
            x.pass(i);
            x.row(0, 1, i);
            x.move(1, i);
            x.thing(6, i, i);
            x.row(2, 0, 5);
            CHECK.due("undo " + i, x.undo(), 2);
            isBusyOne("undone " + i, x);
        }
        CoinTelescope views = new CoinTelescope();
        Check.view(views, "coin 2");
        views.image();
        for (int i = 0; i < 7; i++) {
            CHECK.due("view again", Check.view(views, "coin 4"), 1);
            CHECK.due("coin 4", views.told(1), 4);
            views.undo();
            CHECK.due("coin 2", views.told(1), 2);
        }
        CoinTelescope none = new CoinTelescope();
        none.image();
        Check.view(none, "coin 2");
        none.undo();
        CHECK.due("no view again", none.told(1), 8);
    }

    private static void theTraceIsNotInIt() {
        CoinTelescope x = aBusyOne();
        x.act(0, 2, 1);
        x.image();
        x.act(1, 0, 1);
        x.undo();
        CHECK.due("the latest act's bodies", x.count(6), 2);
        CHECK.due("the latest act's first", x.trace(0), 11);
        x.thing(0, 0, 0);
        x.act(2, 0, 1);
        x.undo();
        CHECK.due("of one that is gone", x.trace(0), 1);
    }

    private static void countsAll() {
        CoinTelescope x = aBusyOne();
        x.act(0, 1, 1);
        CHECK.due("bodies", x.count(6), 3);
        CHECK.due("7", x.count(7), -1);
        CHECK.due("-1", x.count(-1), -1);
        CHECK.due("least", x.count(Integer.MIN_VALUE), -1);
    }
}
