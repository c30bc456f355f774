import java.util.ArrayList;
import java.util.List;
import java.util.Random;

/** Runs of calls drawn by chance (always the same ones): the program answers as the plain telling of the document. */
public final class RandomRunsTest {
    private static final Check CHECK = new Check("RandomRunsTest");
    private static final int[] WILD = {Integer.MIN_VALUE, Integer.MAX_VALUE, -2, -1, 6, 24, 61, 100, 1 << 30, 10000};

    private final Random random;
    private final CoinTelescope x = new CoinTelescope();
    private final Plain plain = new Plain();
    private final List<String> calls = new ArrayList<>();

    private RandomRunsTest(long seed) {
        random = new Random(seed);
    }

    public static void main(String[] args) {
        int runs = args.length > 0 ? Integer.parseInt(args[0]) : 1500;
        for (int seed = 0; seed < runs; seed++) {
            int ahead = CHECK.wrong();
            RandomRunsTest run = new RandomRunsTest(seed);
            run.go(seed % 10 == 0 ? 500 : 80);
            if (CHECK.wrong() > ahead) {
                System.out.println("seed " + seed + ": " + run.calls);
                break;
            }
        }
        for (int seed = 0; seed < 40000 && CHECK.wrong() == 0; seed++) {
            texts(new Random(seed));
        }
        CHECK.end();
    }

    /** One text by chance, read by the program and by the plain one. */
    private static void texts(Random random) {
        String text = Texts.some(random);
        CoinTelescope x = new CoinTelescope();
        int fault = Plain.fault(text);
        CHECK.due("view of '" + text + "'", Check.view(x, text), fault < 0 ? 0 : -10 - fault);
    }

    private void go(int size) {
        int before = CHECK.wrong();
        if (random.nextInt(4) > 0) {
            readView();
        }
        for (int i = random.nextInt(7); i > 0; i--) {
            callThing();
        }
        for (int i = 0; i < size && CHECK.wrong() == before; i++) {
            call(random.nextInt(40));
            if (random.nextInt(8) == 0) {
                compareAll();
            }
        }
    }

    private void due(String call, long got, long want) {
        calls.add(call + "=" + want);
        CHECK.due(call, got, want);
    }

    /** A number of the range, and at times one beside or far from it. */
    private int some(int least, int most) {
        int way = random.nextInt(40);
        if (way == 0) {
            return WILD[random.nextInt(WILD.length)];
        }
        if (way == 1) {
            return random.nextBoolean() ? least - 1 : most + 1;
        }
        return least + random.nextInt(most - least + 1);
    }

    private int someThing() {
        int many = plain.count(0);
        return many == 0 ? some(-1, 1) : some(0, many - 1);
    }

    /** At most times a told one, if there is one. */
    private int someTold(int without) {
        for (int thing = 0; thing < plain.count(0) && random.nextInt(8) > 0; thing++) {
            if (plain.of(thing, 0) == 6) {
                return thing;
            }
        }
        return without;
    }

    private void readView() {
        String text = Texts.some(random);
        for (char sign : text.toCharArray()) {
            due("feed " + sign, x.feed(sign), plain.feed(sign));
        }
        due("view", x.view(), plain.view());
    }

    private void callThing() {
        int kind = some(0, 6), v = some(0, 9), cell = some(0, 23);
        due("thing " + kind + " " + v + " " + cell, x.thing(kind, v, cell), plain.thing(kind, v, cell));
    }

    private void call(int which) {
        int thing = someThing();
        switch (which) {
            case 0: { int s = some(0, 127); due("feed " + s, x.feed(s), plain.feed(s)); break; }
            case 1: if (random.nextInt(4) == 0) { due("view", x.view(), plain.view()); } break;
            case 2: if (random.nextInt(3) == 0) { readView(); } break;
            case 3: callThing(); break;
            case 4: { int k = some(0, 3), n = some(0, 9), t = someTold(thing);
                due("row " + t + " " + k + " " + n, x.row(t, k, n), plain.row(t, k, n)); break; }
            case 5: { int c = some(0, 23);
                due("move " + thing + " " + c, x.move(thing, c), plain.move(thing, c)); break; }
            case 6: { boolean is = random.nextBoolean();
                due("had " + thing + " " + is, x.had(thing, is), plain.had(thing, is)); break; }
            case 7: { int c = some(0, 23); due("point " + c, x.point(c), plain.point(c)); break; }
            case 8: case 9: due("pay", x.pay(), plain.pay()); break;
            case 10: case 11: case 12: case 13: case 14: { int d = some(0, 4);
                due("tick " + d, x.tick(d), plain.tick(d)); break; }
            case 15: { int n = random.nextInt(3) == 0 ? some(0, 60) : some(0, 5);
                due("pass " + n, x.pass(n), plain.pass(n)); break; }
            default: ask(which, thing);
        }
    }

    private void ask(int which, int thing) {
        switch (which) {
            case 16: case 17: { int n = random.nextInt(12) == 0 ? 5 : some(0, 4), k = some(-1, 4);
                due("look " + n + " " + k, x.look(n, k), plain.look(n, k)); break; }
            case 18: { int n = random.nextInt(6) == 0 ? some(1, 3) : some(1, 2), w = some(0, 1);
                due("aim " + n + " " + w, x.aim(n, w), plain.aim(n, w)); break; }
            case 19: case 20: due("soon " + thing, x.soon(thing), plain.soon(thing)); break;
            case 21: case 22: { int k = some(-1, 5); due("order " + k, x.order(k), plain.order(k)); break; }
            case 23: case 24: { int t = random.nextInt(5) == 0 ? -1 : thing, n = some(0, 40), c = some(0, 23);
                if (random.nextInt(6) > 0 && n >= 0 && n <= 40 && plain.then(thing, n, 0) >= 0) {
                    c = plain.then(thing, n, 0);
                }
                due("stood " + t + " " + n + " " + c, x.stood(t, n, c), plain.stood(t, n, c)); break; }
            case 25: due("from " + thing, x.from(thing), plain.from(thing)); break;
            case 26: { int w = some(0, 1);
                due("firm " + thing + " " + w, x.firm(thing, w), plain.firm(thing, w)); break; }
            case 27: { int n = some(0, 3), q = random.nextInt(4) == 0 ? some(0, 9999) : some(0, 30), p = some(0, 1);
                due("odds " + n + " " + q + " " + p, x.odds(n, q, p), plain.odds(n, q, p)); break; }
            case 28: { int p = some(0, 1); due("mean " + p, x.mean(p), plain.mean(p)); break; }
            case 29: case 30: { int d = random.nextInt(12) == 0 ? -1 : some(0, 5);
                due("plan " + d, x.plan(d), plain.plan(d)); break; }
            case 31: { int w = some(0, 2); due("done " + w, x.done(w), plain.done(w)); break; }
            case 32: case 33: { int t = random.nextInt(8) == 0 ? -1 : thing;
                int c = random.nextInt(3) == 0 ? some(0, 23) : Math.max(0, plain.then(thing, 0, 0));
                due("book " + t + " " + c, x.book(t, c), plain.book(t, c)); break; }
            case 34: due("looked", x.looked(), plain.looked()); break;
            case 35: case 36: { int a = some(0, 2), n = random.nextInt();
                due("act " + thing + " " + a + " " + n, x.act(thing, a, n), plain.act(thing, a, n)); break; }
            case 37: { int k = some(0, 6); due("as " + thing + " " + k, x.as(thing, k), plain.as(thing, k)); break; }
            case 38: if (random.nextInt(3) == 0) { due("image", x.image(), plain.image()); } break;
            default: if (random.nextInt(3) == 0) { due("undo", x.undo(), plain.undo()); }
        }
    }

    private void compareAll() {
        for (int what = -1; what <= 10; what++) {
            due("told " + what, x.told(what), plain.told(what));
        }
        for (int what = -1; what <= 7; what++) {
            due("count " + what, x.count(what), plain.count(what));
        }
        for (int i = -1; i <= 8; i++) {
            due("trace " + i, x.trace(i), plain.trace(i));
        }
        for (int thing = -1; thing <= 6; thing++) {
            int n = some(0, 60);
            for (int what = -1; what <= 4; what++) {
                due("of " + thing + " " + what, x.of(thing, what), plain.of(thing, what));
                due("then " + thing + " " + n + " " + what, x.then(thing, n, what), plain.then(thing, n, what));
            }
        }
    }
}
