/** The sentences of "Terms", part 1, on cells, things and views. */
final class TermsSentences {
    private static final int NONE = -1, BAD = -2, FULL = -4;

    private final Check check;
    private final Quotes doc;

    TermsSentences(Check check, Quotes doc) {
        this.check = check;
        this.doc = doc;
    }

    void run() {
        doc.part("==== 1 CELLS", "IS AT of one");
        cells();
        rowsAndColumns();
        things();
        kinds();
        numbersOfThings();
        atFirst();
        tape();
        clauses();
        numbers();
        grammar();
        tests();
        testsWrapAround();
        open();
        faults();
        views();
        lastOnes();
    }

    private void due(String what, long got, long want) {
        check.due(what, got, want);
    }

    private void cells() {
        doc.says("==== 1 CELLS 0 .. 23 of the view:");
        CoinTelescope x = new CoinTelescope();
        due("thing in 0", x.thing(0, 0, 0), 0);
        due("thing in 23", x.thing(0, 0, 23), 1);
        due("thing in -1", x.thing(0, 0, -1), NONE);
        due("thing in 24", x.thing(0, 0, 24), NONE);
        due("move to 23", x.move(0, 23), 0);
        due("move to 0", x.move(0, 0), 23);
        due("move to 24", x.move(0, 24), NONE);
        due("move to -1", x.move(0, -1), NONE);
        due("point at 23", x.point(23), 0);
        due("point at 0", x.point(0), 23);
        due("point at 24", x.point(24), NONE);
        due("point at -1", x.point(-1), NONE);
        due("stood in 23", x.stood(0, 0, 23), 1);
        due("stood in 0", x.stood(0, 0, 0), 2);
        due("stood in 24", x.stood(0, 0, 24), NONE);
        due("stood in -1", x.stood(0, 0, -1), NONE);
        due("book of 23", x.book(0, 23), 1);
        due("book of 0", x.book(0, 0), 2);
        due("book of 24", x.book(0, 24), NONE);
        due("book of -1", x.book(0, -1), NONE);
    }

    private void rowsAndColumns() {
        doc.says("CELL c is in ROW c by 6 (cut), COLUMN c modulo 6.");
        CoinTelescope[] hazy = new CoinTelescope[5];
        for (int haze = 0; haze <= 4; haze++) {
            hazy[haze] = Check.withView("haze " + haze);
            hazy[haze].thing(4, 0, 0);
        }
        for (int cell = 0; cell < 24; cell++) {
            int row = cell < 6 ? 0 : cell < 12 ? 1 : cell < 18 ? 2 : 3;
            for (int haze = 0; haze <= 4; haze++) {
                hazy[haze].move(0, cell);
                due("ROW of " + cell + ", haze " + haze, hazy[haze].then(0, 0, 1), row < haze ? 1 : 0);
            }
            boolean first = cell == 0 || cell == 6 || cell == 12 || cell == 18;
            due("COLUMN of " + cell + ", of a ship's worth", hazy[0].then(0, 0, 3), first ? 10 : 5);
            int next = cell == 5 ? 0 : cell == 11 ? 6 : cell == 17 ? 12 : cell == 23 ? 18 : cell + 1;
            due("COLUMN of " + cell + ", one further", hazy[0].then(0, 2, 0), next);
        }
        doc.says("FAR two are by as many as their ROWS and as their COLUMNS are apart, together.");
        far(0, 23, 8);
        far(23, 0, 8);
        far(5, 18, 8);
        far(18, 5, 8);
        far(5, 6, 6);
        far(11, 6, 5);
        far(3, 21, 3);
        far(0, 1, 1);
        far(7, 0, 2);
        far(0, 5, 5);
    }

    private void far(int cell, int other, int due) {
        CoinTelescope x = new CoinTelescope();
        x.point(cell);
        x.thing(0, 0, other);
        due("from " + cell + " to " + other, x.soon(0), due);
    }

    private void things() {
        doc.says("THINGS are numbered from 0 on, 6 at most,");
        CoinTelescope x = new CoinTelescope();
        due("of 0 ahead of all", x.of(0, 0), NONE);
        for (int i = 0; i < 6; i++) {
            due("of " + i + " ahead of it", x.of(i, 0), NONE);
            due("thing", x.thing(i, i, i), i);
            due("of " + i, x.of(i, 0), i);
        }
        due("a seventh", x.thing(0, 0, 0), FULL);
        due("of a seventh", x.of(6, 0), NONE);
        due("of -1", x.of(-1, 0), NONE);
        due("how many", x.count(0), 6);
    }

    private void kinds() {
        doc.says("each of a KIND: 0 THING; 1 BOAT, 2 HOUSE, 3 BIRD under THING; 4 SHIP under BOAT; "
            + "5 SPIRE under HOUSE; 6 TOLD under BIRD;");
        CoinTelescope x = new CoinTelescope();
        due("kind -1", x.thing(-1, 0, 0), NONE);
        due("kind 7", x.thing(7, 0, 0), NONE);
        int[][] above = {{0}, {0, 1}, {0, 2}, {0, 3}, {0, 1, 4}, {0, 2, 5}, {0, 3, 6}};
        for (int kind = 0; kind < 7; kind++) {
            CoinTelescope one = new CoinTelescope();
            one.thing(kind, 7, 0);
            due("kind", one.of(0, 0), kind);
            for (int k = 0; k < 7; k++) {
                int due = -6;
                for (int its : above[kind]) {
                    due = its == k ? 7 : due;
                }
                due("kind " + kind + " taken for " + k, one.as(0, k), due);
            }
        }
    }

    private void numbersOfThings() {
        doc.says("a number v (0 .. 9),");
        CoinTelescope x = new CoinTelescope();
        due("v -1", x.thing(0, -1, 0), BAD);
        due("v 10", x.thing(0, 10, 0), BAD);
        due("v 0", x.thing(0, 0, 4), 0);
        due("v 9", x.thing(6, 9, 23), 1);
        due("its v", x.of(0, 1), 0);
        due("its v, too", x.of(1, 1), 9);
        doc.says("a CELL it comes from,");
        due("of a thing", x.of(0, 2), 4);
        due("of a told one", x.of(1, 2), 23);
        doc.says("HAD (whether it was seen; not at first);");
        due("the thing at first", x.of(0, 3), 0);
        due("all at first", x.told(8), 0);
        x.pay();
        x.point(4);
        x.tick(0);
        due("the thing was seen", x.of(0, 3), 1);
        due("the told one not", x.of(1, 3), 0);
        doc.says("TOLD ones a ROW of four numbers (0 .. 9; 0 at first).");
        for (int k = 0; k < 4; k++) {
            due("at first " + k, x.row(1, k, 9), 0);
            due("9", x.row(1, k, 0), 9);
            due("0", x.row(1, k, k), 0);
            due("n 10", x.row(1, k, 10), BAD);
            due("n -1", x.row(1, k, -1), BAD);
        }
        for (int k = 0; k < 4; k++) {
            due("each has its own", x.row(1, k, 0), k);
        }
        due("no fifth", x.row(1, 4, 0), NONE);
        due("none ahead of the first", x.row(1, -1, 0), NONE);
    }

    private void atFirst() {
        CoinTelescope x = Check.withView("coin 99");
        doc.says("THE TUBE points at a CELL (0 at first).");
        due("told", x.told(4), 0);
        due("pointed", x.point(3), 0);
        due("no cell 24", x.point(24), NONE);
        due("told still", x.told(4), 3);
        doc.says("LEFT: how many TICKS are paid for (0 .. 99; 0 at first).");
        due("at first", x.told(5), 0);
        due("none below 0", x.pass(1), 0);
        due("told none below 0", x.told(5), 0);
        x.pay();
        due("99", x.told(5), 99);
        Check.view(x, "coin 99;adds 1");
        x.pay();
        due("99 at most", x.told(5), 99);
        doc.says("TICK: 0 at first.");
        due("of a new one", new CoinTelescope().told(0), 0);
        coinsAtTheirMost();
        gainAtItsMost();
    }

    /** More calls than the document speaks of: 9999 coins take as many. The program keeps to the limit all the same. */
    private void coinsAtTheirMost() {
        doc.says("COINS (0 .. 9999; 0 at first).");
        CoinTelescope x = new CoinTelescope();
        due("at first", x.told(6), 0);
        for (int i = 0; i < 9998; i++) {
            x.pay();
        }
        due("9998", x.told(6), 9998);
        x.pass(3);
        due("one more", x.pay(), 8);
        due("9999", x.told(6), 9999);
        x.pass(3);
        due("no more", x.pay(), -3);
        due("9999 still", x.told(6), 9999);
        due("LEFT as it was", x.told(5), 5);
    }

    /** More calls than the document speaks of, as above. */
    private void gainAtItsMost() {
        doc.says("GAIN: 0 .. 9999999, 0 at first.");
        CoinTelescope x = Telescopes.dear();
        due("at first", x.told(7), 0);
        int many = 9999999 / 4776;
        for (int i = 0; i < many; i++) {
            Telescopes.gain(x);
        }
        due("all of it below the most", x.told(7), 4776 * many);
        Telescopes.gain(x);
        due("at the most", x.told(7), 9999999);
        Telescopes.gain(x);
        due("no more", x.told(7), 9999999);
    }

    private void reads(String text) {
        CoinTelescope x = new CoinTelescope();
        due("view of '" + text + "'", Check.view(x, text), 0);
        due("and it is one", x.count(1), 1);
    }

    private void fault(String text, int place) {
        CoinTelescope x = new CoinTelescope();
        due("view of '" + text + "'", Check.view(x, text), -10 - place);
        due("and it is none", x.count(1), 0);
    }

    private void tape() {
        doc.says("A VIEW is read from THE TAPE (bytes, 100 at most):");
        String text = "dear 10 " + "p>5|".repeat(22) + "c=23";
        due("the test's own text", text.length(), 100);
        CoinTelescope x = new CoinTelescope();
        Check.feed(x, text);
        due("signs", x.count(5), 100);
        due("one more", x.feed(';'), FULL);
        due("view", x.view(), 0);
        x.thing(0, 0, 23);
        x.thing(0, 0, 22);
        due("all 100 count", x.then(0, 0, 2), 10);
        due("for the other, too", x.then(1, 0, 2), 0);
        due("empty then", x.count(5), 0);
        due("feed from 1 on", x.feed('c'), 1);
    }

    private void clauses() {
        doc.says("CLAUSES, 10 at most, with ; between:");
        reads("haze 1");
        fault("", 0);
        String nine = "haze 1;".repeat(8) + "haze 1";
        CoinTelescope x = new CoinTelescope();
        due("ten", Check.view(x, nine + ";haze 3"), 0);
        due("the tenth holds", x.told(3), 3);
        fault(nine + ";haze 3;", 69);
        fault(nine + ";haze 3;haze 4", 69);
        fault(";haze 1", 0);
        fault("haze 1;", 7);
        fault("haze 1;;haze 1", 7);
        fault("haze 1 ;haze 1", 6);
        fault("haze 1,haze 1", 6);
        fault("haze 1haze 1", 6);
        CoinTelescope dears = new CoinTelescope();
        due("nine dear ones", Check.view(dears, "dear 1 p<9;".repeat(8) + "dear 1 p<9"), 0);
        dears.thing(0, 0, 0);
        due("all count", dears.then(0, 0, 2), 9);
        doc.says("coin n; adds n; haze n; dear n E; dull n E");
        reads("coin 1");
        reads("adds 1");
        reads("dear 1 p=1");
        reads("dull 1 p=1");
        reads("coin 1;adds 1;haze 1;dear 1 p=1;dull 1 p=1");
        fault("Coin 1", 0);
        fault("coim 1", 3);
        fault("addc 1", 3);
        fault("hazd 1", 3);
        fault("deal 1 p=1", 3);
        fault("dulx 1 p=1", 3);
        fault("dear 1", 6);
        fault("dull 1", 6);
        fault("coin 1 p=1", 6);
        fault("adds 1 p=1", 6);
        fault("haze 1 p=1", 6);
        fault("dear p=1", 5);
        fault("coin", 4);
        fault("coins 1", 4);
        fault("coina 1", 4);
        fault("addsh 1", 4);
        fault("hazed 1", 4);
        fault("deard 1 p=1", 4);
        fault("coinadds 1", 4);
        fault("dulldear 1 p=1", 4);
    }

    private void numbers() {
        doc.says("(one blank ahead of each part behind the word; n 1 or 2 digits, no 0 ahead of another).");
        fault("haze1", 4);
        fault("haze  1", 5);
        fault(" haze 1", 0);
        fault("haze 1 ", 6);
        fault("dear 1p=1", 6);
        fault("dear 1  p=1", 7);
        fault("dear 1 p=1 ", 10);
        fault("dear 1 p =1", 8);
        fault("dear 1 p= 1", 9);
        fault("dear 1 p=1 &p=1", 10);
        fault("haze ", 5);
        fault("haze /", 5);
        fault("haze :", 5);
        fault("haze 1/", 6);
        fault("haze 1:", 6);
        fault("haze 00", 6);
        fault("haze 01", 6);
        fault("dear 01 p=1", 6);
        fault("haze 100", 7);
        fault("dear 100 p=1", 7);
        fault("haze -1", 5);
        for (int n : new int[] {0, 1, 9, 10, 90, 99}) {
            CoinTelescope x = Check.withView("adds " + n + ";haze " + n + ";dear " + n + " p=0;dull " + n + " p=1");
            x.thing(0, 0, 0);
            x.thing(0, 0, 0);
            due("adds", x.told(2), n);
            due("haze", x.told(3), n);
            due("dear", x.then(0, 0, 2), n);
            due("dull", x.then(1, 0, 2), -n);
        }
    }

    /** Whether a dear E holds for thing 1 of v 3, a boat at cell 5 on tick 0. */
    private void holds(String e, boolean due) {
        CoinTelescope x = Check.withView("dear 5 " + e);
        x.thing(0, 0, 0);
        x.thing(1, 3, 5);
        due(e, x.then(1, 0, 2), due ? 5 : 0);
    }

    private void grammar() {
        doc.says("E: T, or T|E.");
        holds("p=1", true);
        holds("p=0", false);
        holds("p=0|p=1", true);
        holds("p=1|p=0", true);
        holds("p=0|k=0|v=3", true);
        holds("p=0|k=0|v=4", false);
        fault("dear 1 p=1|", 11);
        fault("dear 1 |p=1", 7);
        fault("dear 1 p=1||p=1", 11);
        doc.says("T: F, or F&T.");
        holds("p=1&k=1", true);
        holds("p=1&k=0", false);
        holds("p=0&k=1", false);
        holds("p=1&k=1&v=4", false);
        holds("p=1&k=1&v=3", true);
        holds("p=1|p=0&k=0", true);
        holds("p=0&k=0|p=1", true);
        fault("dear 1 p=1&", 11);
        fault("dear 1 &p=1", 7);
        fault("dear 1 p=1&|p=1", 11);
        fault("dear 1 p=1&&p=1", 11);
        doc.says("F: !F, (E), or a TEST:");
        holds("!p=1", false);
        holds("!!p=1", true);
        holds("!p=0&k=0", false);
        holds("!p=1|k=1", true);
        holds("!(p=1&k=0)", true);
        holds("(p=1)", true);
        holds("(p=1|p=0)&k=0", false);
        holds("k=0&(p=1|p=0)", false);
        fault("dear 1 !", 8);
        fault("dear 1 ()", 8);
        fault("dear 1 (p=1", 11);
        fault("dear 1 (p=1;haze 1", 11);
        fault("dear 1 p=1)", 10);
        fault("dear 1 (p=1))", 12);
        fault("dear 1 p=1!p=1", 10);
        fault("dear 1 p=1(p=1)", 10);
    }

    private void tests() {
        doc.says("p or k or v or c or t or l, one of < = >, a number likewise:");
        for (char letter = 'a'; letter <= 'z'; letter++) {
            if ("pkvctl".indexOf(letter) >= 0) {
                reads("dear 1 " + letter + "<0");
                reads("dear 1 " + letter + "=9");
                reads("dear 1 " + letter + ">99");
            } else {
                fault("dear 1 " + letter + "<0", 7);
            }
        }
        fault("dear 1 P=1", 7);
        fault("dear 1 1=p", 7);
        fault("dear 1 =1", 7);
        fault("dear 1 <1", 7);
        fault("dear 1 1", 7);
        fault("dear 1 p", 8);
        fault("dear 1 p;", 8);
        fault("dear 1 p1", 8);
        fault("dear 1 p?1", 8);
        fault("dear 1 p==1", 9);
        fault("dear 1 p<=1", 9);
        fault("dear 1 p=", 9);
        fault("dear 1 p=a", 9);
        fault("dear 1 p=00", 10);
        fault("dear 1 p=01", 10);
        fault("dear 1 p=100", 11);
        doc.says("of one of THINGS on a TICK p its number, k its KIND, v its v, c the CELL where it is then, "
            + "t the TICK modulo 10, l how many TICKS are LEFT.");
        for (char letter : "pkvctl".toCharArray()) {
            holds(letter + "<0", false);
            holds("!" + letter + "<0", true);
            holds(letter + "<0|!!" + letter + "<0", false);
            holds(letter + ">99", false);
            holds(letter + "<99&!" + letter + "=99", true);
        }
        is("p", 5);
        is("k", 1);
        is("v", 9);
        is("c", 21);
        is("t", 4);
        is("l", 7);
    }

    /** Letter stands for n: thing 5, a boat of v 9 that comes from cell 23, on tick 4, with 7 ticks left. */
    private void is(String letter, int n) {
        String[] tests = {"<" + n, "<" + (n + 1), "=" + n, "=" + (n + 1), "=" + (n - 1), ">" + n, ">" + (n - 1)};
        boolean[] due = {false, true, true, false, false, false, true};
        for (int i = 0; i < tests.length; i++) {
            CoinTelescope x = Check.withView("dear 5 " + letter + tests[i]);
            for (int thing = 0; thing < 5; thing++) {
                x.thing(0, 0, 0);
            }
            x.thing(1, 9, 23);
            x.pass(3);
            x.pay();
            x.pass(1);
            due(letter + tests[i], x.then(5, 0, 2), due[i] ? 5 : 0);
        }
    }

    private void testsWrapAround() {
        CoinTelescope x = Check.withView("dear 1 t=0;dear 2 t=9;dear 4 t>9;dear 8 c=18;dear 16 c=23;dear 32 l=99");
        x.thing(1, 0, 18);
        int[] due = {8 + 1, 0, 0, 0, 0, 16, 8, 0, 0, 2, 1, 16, 8};
        for (int n = 0; n < due.length; n++) {
            due("on tick " + n, x.then(0, n, 2), due[n]);
        }
        x.pass(19);
        due("on tick 19", x.then(0, 0, 2), 2);
        due("on tick 20", x.then(0, 1, 2), 1);
        Check.view(x, "coin 99;dear 32 l=99;dear 1 l=0");
        due("l is 0", x.then(0, 0, 2), 1);
        x.pay();
        due("l is 99", x.then(0, 0, 2), 32);
        due("l is 99 in 60", x.then(0, 60, 2), 32);
    }

    private void open() {
        doc.says("At most 5 of ! and ( are open (a ( till its ) , a ! till its F ends).");
        reads("dear 1 !!!!!p=1");
        fault("dear 1 !!!!!!p=1", 12);
        reads("dear 1 (((((p=1)))))");
        fault("dear 1 ((((((p=1))))))", 12);
        reads("dear 1 !(!(!p=1))");
        fault("dear 1 !(!(!(p=1)))", 12);
        reads("dear 1 !!!!!p=1&!!!!!p=1|!!!!!p=1");
        reads("dear 1 !!!!(p=1)&!p=1");
        reads("dear 1 ((((!p=1&!p=1))))");
        fault("dear 1 ((((!!p=1))))", 12);
        reads("dear 1 ((((!p=1)&!p=1)&!p=1)&!p=1)&!!!!!p=1");
        fault("dear 1 (((((p=1&!p=1)))))", 16);
        reads("dear 1 (((((p=1)&!p=1))))");
        fault("dear 1 !!!!!(p=1)", 12);
        reads("dear 1 (((((p=1)))));dear 1 (((((p=1)))))");
    }

    private void faults() {
        doc.says("FAULT: the place of the first byte with which no VIEW can go on (the size, if it ends too early).");
        fault("x", 0);
        fault("\0", 0);
        fault("\u007f", 0);
        fault("", 0);
        fault("d", 1);
        fault("de", 2);
        fault("du", 2);
        fault("dx", 1);
        fault("duar 1 p=1", 2);
        fault("coil", 3);
        fault("coil;x", 3);
        fault("coin 1;coil", 10);
        fault("haze 1\0", 6);
        fault("dear 1 p=1;dull 1 (p=1|v=2", 26);
        String long99 = "dear 1 " + "p<9|".repeat(22) + "p<99";
        fault(long99 + "9", 99);
        fault(long99 + "|", 100);
        fault("y".repeat(100), 0);
    }

    private void views() {
        doc.says("VIEWS are numbered from 0 on, 5 at most; the newest one holds; without one there are no CLAUSES.");
        CoinTelescope x = new CoinTelescope();
        x.thing(0, 0, 0);
        due("without one: base", x.then(0, 0, 2), 0);
        due("dim", x.then(0, 0, 1), 0);
        due("coin", x.told(1), 8);
        for (int i = 0; i < 5; i++) {
            due("view", Check.view(x, "coin " + (i + 3) + ";dear " + i + " p=0"), i);
            due("the newest holds", x.told(1), i + 3);
            due("its clauses alone", x.then(0, 0, 2), i);
        }
        Check.feed(x, "coin 9");
        due("a sixth", x.view(), FULL);
        due("how many", x.count(1), 5);
        due("the fifth holds", x.told(1), 7);
    }

    private void lastOnes() {
        doc.says("COIN (8 without; 1 if it is 0), ADDS (0 without), HAZE (0 without): "
            + "the last n of coin, of adds, of haze.");
        told("dear 1 p=0", 8, 0, 0);
        told("coin 0", 1, 0, 0);
        told("coin 1", 1, 0, 0);
        told("coin 9;coin 0", 1, 0, 0);
        told("coin 0;coin 9", 9, 0, 0);
        told("adds 7;adds 0", 8, 0, 0);
        told("adds 0;adds 7", 8, 7, 0);
        told("haze 99;coin 99;adds 99;haze 2", 99, 99, 2);
        told("haze 2;haze 0", 8, 0, 0);
        CoinTelescope x = Check.withView("coin 3;adds 4;haze 1");
        Check.view(x, "adds 5");
        due("of the newest view alone: coin", x.told(1), 8);
        due("adds", x.told(2), 5);
        due("haze", x.told(3), 0);
    }

    private void told(String text, int coin, int adds, int haze) {
        CoinTelescope x = Check.withView(text);
        due("coin of " + text, x.told(1), coin);
        due("adds of " + text, x.told(2), adds);
        due("haze of " + text, x.told(3), haze);
    }
}
