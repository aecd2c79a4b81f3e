/** Promises 11 to 23: a RUN, what it serves, HEAT, and MARKS. */
public final class RunTest {
    private static final String ONE = "cabin rows 3 walk 7 serve 10;heat least 50 cools 10;"
            + "kind a shape 1 hot 60;kind b shape 1 hot 70;kind d shape 1 hot 49;";

    public static void main(String[] args) {
        withoutFlight();
        start();
        order();
        backTrolleyAlone();
        namedOnes();
        draws();
        noChoice();
        belts();
        heat();
        cold();
        coldTrays();
        refusals();
        marks();
        fortyRows();
        Check.end("RunTest");
    }

    private static void withoutFlight() {
        TwoTrolleys x = new TwoTrolleys();
        Check.due(x, "start(0)", x.start(0), false, 1);
        Check.due(x, "start(-1)", x.start(-1), false, 1);
        Check.due(x, "step()", x.step(), -1, 1);
        Check.due(x, "finish()", x.finish(), -1, 1);
        Check.due(x, "seconds(0)", x.seconds(0), -1, 1);
        Check.due(x, "left(0, 0)", x.left(0, 0), -1, 1);
        Check.due(x, "served(1, 0)", x.served(1, 0), -1, 1);
        Check.due(x, "trays(1, 0)", x.trays(1, 0), -1, 1);
        Check.due(x, "got(0)", x.got(0), -1, 1);
        Check.due(x, "sum(0)", x.sum(0), -1, 1);
        Check.due(x, "heat(0, 0)", x.heat(0, 0), -1000, 1);
        Check.due(x, "heat(0, -1)", x.heat(0, -1), -1000, 1);
        Check.due(x, "cold(0, 0)", x.cold(0, 0), -1, 1);
        Check.due(x, "mark()", x.mark(), -1, 1);
        Check.due(x, "back(0)", x.back(0), false, 1);
    }

    private static void start() {
        TwoTrolleys x = Check.flight(Check.BASE + ";block 1 to 4 seats 1 likes c 1;load f c many 3");
        Check.due(x, "step() behind flight()", x.step(), 1, 0);
        Check.due("SEED by one draw from 0", x.size(13), 74);
        Check.due(x, "start(-1)", x.start(-1), false, 2);
        Check.due(x, "start(65537)", x.start(65537), false, 2);
        Check.due("a RUN goes on behind a refusal", x.sum(5), 1);
        Check.due("SEED stays behind a refusal", x.size(13), 74);
        Check.due(x, "start(65536)", x.start(65536), true, 0);
        Check.due("SEED", x.size(13), 65536);
        Check.due("no ROW served", x.sum(5), 0);
        Check.due("no trays handed", x.sum(0), 0);
        Check.due("all left", x.left(0, 0), 3);
        Check.due("SECONDS 0", x.seconds(0), 0);
        x.finish();
        Check.due("75 times 65,536 and 74 mod 65,537", x.size(13), 65536);
        x.start(1);
        x.step();
        Check.due("75 times 1 and 74", x.size(13), 149);
    }

    private static void order() {
        // The back trolley is told first, so it is number 0; the front one starts of like ones.
        TwoTrolleys x = Check.flight("cabin rows 5 walk 4 serve 10;heat least 0 cools 0;kind c shape 1 hot 1;"
                + "trolley b back drawers 1 holds 8;trolley f front drawers 1 holds 8;load b c many 9;load f c many 9;"
                + "block 1 to 1 seats 3 likes c 1;block 4 to 5 seats 1 likes c 1");
        Check.due(x, "step() 1", x.step(), 1, 0);
        Check.due("by the front one", x.served(1, 0), 1);
        Check.due("its SECONDS", x.seconds(1), 30);
        Check.due(x, "step() 2", x.step(), 5, 0);
        Check.due("by the back one", x.served(5, 0), 0);
        Check.due("its SECONDS", x.seconds(0), 10);
        Check.due(x, "step() 3", x.step(), 4, 0);
        Check.due("walks to its second ROW", x.served(4, 1), 14);
        Check.due("its end", x.served(4, 2), 24);
        Check.due(x, "step() 4", x.step(), 3, 0);
        Check.due("a ROW without seats takes its walk", x.served(3, 1), 28);
        Check.due("its end is its BEGINNING", x.served(3, 2), 28);
        Check.due(x, "rest by finish()", x.finish(), 1, 0);
        Check.due("the back one was ahead", x.served(2, 0), 0);
        Check.due(x, "step() when over", x.step(), -1, 6);
        Check.due(x, "finish() when over", x.finish(), 0, 0);
        Check.due("seconds(0)", x.seconds(0), 32);
        Check.due("seconds(1)", x.seconds(1), 30);
        Check.due(x, "seconds(2)", x.seconds(2), -1, 1);
        Check.due(x, "seconds(-1)", x.seconds(-1), -1, 1);
        Check.due("left(0, 0)", x.left(0, 0), 7);
        Check.due("left(1, 0)", x.left(1, 0), 6);
        Check.due("met()", x.met(), 1);
        // Of like SECONDS the front one, whichever was told first.
        TwoTrolleys y = Check.flight("cabin rows 5 walk 4 serve 10;heat least 0 cools 0;kind c shape 1 hot 1;"
                + "trolley b back drawers 1 holds 8;trolley f front drawers 1 holds 8");
        Check.due("tie 1", y.step(), 1);
        Check.due("tie 2 (both 0: the first ROW needs no walk)", y.step(), 2);
        Check.due("behind it the back one", y.step(), 5);
        Check.due("and once more", y.step(), 4);
        Check.due("tie 3", y.step(), 3);
        Check.due("by the front one", y.served(3, 0), 1);
        Check.due("met() at it", y.met(), 3);
    }

    private static void backTrolleyAlone() {
        TwoTrolleys x = Check.flight(ONE + "trolley t back drawers 1 holds 8;load t a many 3;block 1 to 3 seats 1 likes a 1");
        Check.due("step()", x.step(), 3);
        Check.due("step()", x.step(), 2);
        Check.due("step()", x.step(), 1);
        Check.due("served(3, 1)", x.served(3, 1), 0);
        Check.due("served(2, 1)", x.served(2, 1), 17);
        Check.due("served(1, 2)", x.served(1, 2), 44);
        TwoTrolleys y = Check.flight(ONE + "trolley t front drawers 1 holds 8;load t a many 3;block 1 to 3 seats 1 likes a 1");
        Check.due("finish()", y.finish(), 3);
        Check.due("served(3, 2)", y.served(3, 2), 44);
        Check.due("seconds(0)", y.seconds(0), 44);
    }

    private static void namedOnes() {
        // Row 1: one seat, three named ones; the child goes first, then by LINES; all of them are there.
        TwoTrolleys x = Check.flight(ONE + "trolley t front drawers 1 holds 8;load t b many 2;load t a many 1;"
                + "block 1 to 2 seats 1 likes a 1;named p row 1 eats b;named q row 1 eats b;named r row 1 eats b child;"
                + "named s row 9 eats b;named u row 3 eats d");
        Check.due(x, "got(0) ahead of its ROW", x.got(0), -1, 6);
        x.step();
        Check.due(x, "got(0)", x.got(0), 1, 0);
        Check.due(x, "got(1)", x.got(1), 0, 0);
        Check.due(x, "got(2), the child", x.got(2), 1, 0);
        Check.due(x, "got(3), beyond the cabin", x.got(3), -1, 1);
        Check.due(x, "got(4), its ROW isn't served", x.got(4), -1, 6);
        Check.due(x, "got(5)", x.got(5), -1, 1);
        Check.due(x, "got(-1)", x.got(-1), -1, 1);
        Check.due("named ones draw nothing", x.size(13), 0);
        Check.due("NOTHING", x.served(1, 4), 1);
        Check.due("NO CHOICE is not for named ones", x.served(1, 3), 0);
        Check.due("trays", x.served(1, 6), 2);
        Check.due("its end", x.served(1, 2), 20);
        Check.due("trays(1, 1)", x.trays(1, 1), 2);
        Check.due("trays(1, 0)", x.trays(1, 0), 0);
        x.finish();
        Check.due("got(4), not loaded", x.got(4), 0);
        // A named one among seats: the others draw.
        TwoTrolleys y = Check.flight(ONE + "trolley t front drawers 1 holds 8;load t b many 2;load t a many 9;"
                + "block 1 to 1 seats 4 likes a 1;named p row 1 eats b");
        y.step();
        Check.due("three draws", y.size(13), 28652);
        Check.due("trays of the named one", y.trays(1, 1), 1);
        Check.due("trays of the others", y.trays(1, 0), 3);
    }

    private static void draws() {
        // SEED 0 draws 74, 5624, 28652, 51790; mod 3 that is 2, 2, 2, 1: b for 0 and 1, a for 2, in the block's order.
        TwoTrolleys x = Check.flight(ONE + "trolley t front drawers 1 holds 8;load t b many 9;load t a many 9;"
                + "block 1 to 1 seats 4 likes b 2,a 1");
        x.step();
        Check.due("trays(1, 0)", x.trays(1, 0), 3);
        Check.due("trays(1, 1)", x.trays(1, 1), 1);
        Check.due("SEED", x.size(13), 51790);
        TwoTrolleys y = Check.flight(ONE + "trolley t front drawers 1 holds 8;load t b many 9;load t a many 9;"
                + "block 1 to 1 seats 4 likes a 1,b 2");
        y.step();
        Check.due("the other order, trays(1, 0)", y.trays(1, 0), 0);
        Check.due("the other order, trays(1, 1)", y.trays(1, 1), 4);
        Check.due("NO CHOICE", y.served(1, 3), 0);
    }

    private static void noChoice() {
        // All like d; most is left of b, then of a and b alike: the first such.
        TwoTrolleys x = Check.flight(ONE + "trolley t front drawers 1 holds 8;load t a many 1;load t b many 2;"
                + "load t d many 1;block 1 to 2 seats 3 likes d 1");
        x.step();
        Check.due("d, then b, then a", x.trays(1, 2) * 100 + x.trays(1, 1) * 10 + x.trays(1, 0), 111);
        Check.due("NO CHOICE", x.served(1, 3), 2);
        Check.due("NOTHING", x.served(1, 4), 0);
        x.step();
        Check.due("NO CHOICE of the last", x.served(2, 3), 1);
        Check.due("NOTHING left", x.served(2, 4), 2);
        Check.due("one tray", x.served(2, 6), 1);
        Check.due("it draws all the same", x.size(13), sixDraws());
        Check.due("its end by one tray", x.served(2, 2), 30 + 7 + 10);
        Check.due("sum(0)", x.sum(0), 4);
        Check.due("sum(1)", x.sum(1), 3);
        Check.due("sum(2)", x.sum(2), 2);
        Check.due("sum(5)", x.sum(5), 2);
        Check.due(x, "sum(-1)", x.sum(-1), -1, 1);
        Check.due(x, "sum(6)", x.sum(6), -1, 1);
    }

    private static int sixDraws() {
        int seed = 0;
        for (int i = 0; i < 6; i++) {
            seed = (75 * seed + 74) % 65537;
        }
        return seed;
    }

    private static void belts() {
        String head = "cabin rows 3 walk 30 serve 60;heat least 0 cools 0;kind a shape 1 hot 60;"
                + "trolley t front drawers 1 holds 8;load t a many 9;block 1 to 1 seats 1 likes a 1;"
                + "block 2 to 2 seats 3 likes a 1;block 3 to 3 seats 1 likes a 1";
        // It waits at its first ROW too, and again as long as a minute is one of belts.
        TwoTrolleys x = Check.flight(head + ";belts 2 to 3;belts 0 to 2");
        x.finish();
        Check.due("BEGINNING of its first ROW", x.served(1, 1), 180);
        Check.due("no walk to it", x.served(1, 2), 240);
        Check.due("then it walks", x.served(2, 1), 270);
        Check.due("nothing spilt", x.sum(4), 0);
        // From the first minute on, ahead of the second.
        TwoTrolleys y = Check.flight(head + ";belts 1 to 2");
        y.finish();
        Check.due("it waits from the first minute on", y.served(2, 1), 150);
        Check.due("belts that begin at the end spill nothing", y.sum(4), 0);
        TwoTrolleys z = Check.flight(head + ";belts 0 to 1");
        z.finish();
        Check.due("not in the second minute", z.served(2, 1), 60 + 60 + 30);
        // ROW 2 is served from 90 to 270: what begins at 2, 3 and 4 minutes spills, at 5 it doesn't.
        TwoTrolleys w = Check.flight(head + ";belts 2 to 3;belts 4 to 9;belts 4 to 5");
        w.finish();
        Check.due("BEGINNING of ROW 2", w.served(2, 1), 90);
        Check.due("end of ROW 2", w.served(2, 2), 270);
        Check.due("SPILT", w.sum(4), 3);
        Check.due("it waits for the longer belts", w.served(3, 1), 570);
        // Belts that begin while it walks neither stop it nor spill.
        TwoTrolleys v = Check.flight("cabin rows 3 walk 60 serve 50;heat least 0 cools 0;kind a shape 1 hot 60;"
                + "trolley t front drawers 1 holds 8;load t a many 9;block 1 to 3 seats 1 likes a 1;belts 1 to 2");
        v.finish();
        Check.due("walks on", v.served(2, 1), 110);
        Check.due("and spills nothing", v.sum(4), 0);
        Check.due("160 is beyond belts", v.served(3, 1), 220);
        // Belts that begin at the very BEGINNING spill nothing.
        TwoTrolleys u = Check.flight("cabin rows 3 walk 10 serve 50;heat least 0 cools 0;kind a shape 1 hot 60;"
                + "trolley t front drawers 1 holds 8;load t a many 9;block 1 to 3 seats 1 likes a 1;belts 1 to 2");
        u.finish();
        Check.due("BEGINNING with belts", u.served(2, 1), 60);
        Check.due("it was there ahead of them", u.sum(4), 0);
        u.start(0);
        Check.due("SPILT anew", u.sum(4), 0);
    }

    private static void heat() {
        TwoTrolleys x = Check.flight("cabin rows 3 walk 0 serve 1;heat least 40 cools 15;kind a shape 1 hot 60;"
                + "kind b shape 1 hot 9;trolley t front drawers 1 holds 8;batch a at 20;batch a at 10;batch b at 15");
        Check.due(x, "heat(0, 0)", x.heat(0, 0), 60, 0);
        Check.due(x, "heat(0, 1)", x.heat(0, 1), 59, 0);
        Check.due(x, "heat(0, 9), from minute 0", x.heat(0, 9), 60 - 13, 0);
        Check.due(x, "heat(0, 10), a batch of this minute", x.heat(0, 10), 60, 0);
        Check.due(x, "heat(0, 19)", x.heat(0, 19), 60 - 13, 0);
        Check.due(x, "heat(0, 20)", x.heat(0, 20), 60, 0);
        Check.due(x, "heat(0, 999)", x.heat(0, 999), 60 - 1468, 0);
        Check.due(x, "heat(1, 14)", x.heat(1, 14), 9 - 21, 0);
        Check.due(x, "heat(1, 16)", x.heat(1, 16), 8, 0);
        Check.due(x, "heat(0, 1000)", x.heat(0, 1000), -1000, 2);
        Check.due(x, "heat(0, -1)", x.heat(0, -1), -1000, 2);
        Check.due(x, "heat(2, 0)", x.heat(2, 0), -1000, 1);
        Check.due(x, "heat(-1, 2000)", x.heat(-1, 2000), -1000, 1);
    }

    private static void cold() {
        TwoTrolleys x = Check.flight("cabin rows 3 walk 0 serve 1;heat least 40 cools 50;kind a shape 1 hot 60;"
                + "kind b shape 1 hot 39;trolley t front drawers 1 holds 8;batch a at 5;batch a at 8;batch a at 300");
        // 60 less 5 a minute: 40 at 4 minutes is not below 40; a new batch comes at 5, then at 8.
        Check.due(x, "cold(0, 0)", x.cold(0, 0), 13, 0);
        Check.due(x, "cold(0, 13)", x.cold(0, 13), 13, 0);
        Check.due(x, "cold(0, 299)", x.cold(0, 299), 299, 0);
        Check.due(x, "cold(0, 300)", x.cold(0, 300), 305, 0);
        Check.due(x, "cold(0, 999)", x.cold(0, 999), 999, 0);
        Check.due(x, "cold(1, 0)", x.cold(1, 0), 0, 0);
        Check.due(x, "cold(0, 1000)", x.cold(0, 1000), -1, 2);
        Check.due(x, "cold(0, -1)", x.cold(0, -1), -1, 2);
        Check.due(x, "cold(2, 0)", x.cold(2, 0), -1, 1);
        Check.due(x, "cold(-1, -1)", x.cold(-1, -1), -1, 1);
        TwoTrolleys y = Check.flight("cabin rows 3 walk 0 serve 1;heat least 60 cools 0;kind a shape 1 hot 60;"
                + "trolley t front drawers 1 holds 8");
        Check.due(y, "never cold", y.cold(0, 0), -2, 0);
        Check.due(y, "never cold up to 999", y.cold(0, 999), -2, 0);
    }

    private static void coldTrays() {
        // Ends at 20, 40, 60 .. seconds; cools 5 a minute from 60, least 56: cold from minute 1 on, warm anew at 3.
        TwoTrolleys x = Check.flight("cabin rows 2 walk 20 serve 20;heat least 56 cools 50;kind a shape 1 hot 60;"
                + "trolley t front drawers 1 holds 8;load t a many 20;block 1 to 2 seats 5 likes a 1;batch a at 3");
        x.step();
        Check.due("COLD at 60, 80, 100", x.served(1, 5), 3);
        x.step();
        Check.due("BEGINNING", x.served(2, 1), 120);
        Check.due("COLD at 140, 160, not from 180 on", x.served(2, 5), 2);
        Check.due("sum(3)", x.sum(3), 5);
    }

    private static void refusals() {
        TwoTrolleys x = Check.flight(Check.BASE + ";block 1 to 4 seats 1 likes c 1;load f c many 3;load b v many 2");
        x.step();
        Check.due(x, "served(0, 0)", x.served(0, 0), -1, 1);
        Check.due(x, "served(5, 0)", x.served(5, 0), -1, 1);
        Check.due(x, "served(1, 7)", x.served(1, 7), -1, 1);
        Check.due(x, "served(1, -1)", x.served(1, -1), -1, 1);
        Check.due(x, "served(2, 0)", x.served(2, 0), -1, 6);
        Check.due(x, "served(2, 7)", x.served(2, 7), -1, 1);
        Check.due(x, "served(1, 0)", x.served(1, 0), 0, 0);
        Check.due(x, "trays(2, 0)", x.trays(2, 0), -1, 6);
        Check.due(x, "trays(2, 2)", x.trays(2, 2), -1, 1);
        Check.due(x, "trays(5, 0)", x.trays(5, 0), -1, 1);
        Check.due(x, "trays(1, -1)", x.trays(1, -1), -1, 1);
        Check.due(x, "trays(1, 0)", x.trays(1, 0), 1, 0);
        Check.due(x, "left(0, 0)", x.left(0, 0), 2, 0);
        Check.due(x, "left(1, 1)", x.left(1, 1), 2, 0);
        Check.due(x, "left(2, 0)", x.left(2, 0), -1, 1);
        Check.due(x, "left(0, 2)", x.left(0, 2), -1, 1);
        Check.due(x, "left(0, -1)", x.left(0, -1), -1, 1);
        Check.due(x, "left(-1, 0)", x.left(-1, 0), -1, 1);
    }

    private static void marks() {
        TwoTrolleys x = Check.flight(ONE + "trolley t front drawers 1 holds 8;trolley u back drawers 1 holds 8;"
                + "load t a many 1;load u b many 3;block 1 to 3 seats 1 likes a 1,b 1;named p row 2 eats b;belts 200 to 201");
        Check.due(x, "back(0) without MARKS", x.back(0), false, 1);
        Check.due(x, "mark() 0", x.mark(), 0, 0);
        x.step();
        Check.due(x, "mark() 1", x.mark(), 1, 0);
        int seed = x.size(13);
        x.finish();
        long end = state(x);
        Check.due(x, "mark() 2", x.mark(), 2, 0);
        Check.due(x, "back(1)", x.back(1), true, 0);
        Check.due("ROWS SERVED", x.sum(5), 1);
        Check.due("SEED", x.size(13), seed);
        Check.due("SECONDS", x.seconds(0), 10);
        Check.due("SECONDS", x.seconds(1), 0);
        Check.due("left", x.left(1, 1), 3);
        Check.due("not served", x.served(3, 6), -1);
        Check.due("not got", x.got(0), -1);
        Check.due(x, "mark() 3", x.mark(), 3, 0);
        Check.due(x, "mark() 4", x.mark(), -1, 3);
        Check.due("MARKS", x.size(12), 4);
        x.finish();
        Check.due("the same end again", state(x), end);
        Check.due(x, "back(0)", x.back(0), true, 0);
        Check.due("no ROW SERVED", x.sum(5), 0);
        Check.due("no trays", x.sum(0), 0);
        Check.due(x, "back(2)", x.back(2), true, 0);
        Check.due("the end again", state(x), end);
        Check.due(x, "back(4)", x.back(4), false, 1);
        Check.due(x, "back(-1)", x.back(-1), false, 1);
        Check.due("a refusal changes nothing", state(x), end);
        x.start(5);
        Check.due("start() leaves MARKS", x.size(12), 4);
        x.step();
        x.back(2);
        Check.due("the end once more", state(x), end);
        Check.tell(x, Check.BASE);
        Check.due("flight() leaves none", x.size(12), 0);
        Check.due(x, "back(0) of another FLIGHT", x.back(0), false, 1);
    }

    private static long state(TwoTrolleys x) {
        long state = x.size(13);
        for (int what = 0; what <= 5; what++) {
            state = state * 31 + x.sum(what);
        }
        for (int row = 1; row <= 3; row++) {
            for (int what = 0; what <= 6; what++) {
                state = state * 31 + x.served(row, what);
            }
            for (int kind = 0; kind < 3; kind++) {
                state = state * 31 + x.trays(row, kind);
            }
        }
        for (int trolley = 0; trolley < 2; trolley++) {
            state = state * 31 + x.seconds(trolley);
            for (int kind = 0; kind < 3; kind++) {
                state = state * 31 + x.left(trolley, kind);
            }
        }
        return state * 31 + x.got(0);
    }

    /** The longest cabin, served from behind alone and from both ends. */
    private static void fortyRows() {
        String head = "cabin rows 40 walk 60 serve 60;heat least 90 cools 0;kind a shape 1 hot 60;"
                + "trolley b back drawers 14 holds 40;load b a many 99;load b a many 99;load b a many 99;load b a many 99;"
                + "block 1 to 40 seats 9 likes a 1;named n row 40 eats a;gap 39;past at 0 from 40 to 40";
        TwoTrolleys x = Check.flight(head);
        Check.due("all()", x.all(), 360);
        Check.due("sits(40)", x.sits(40), 9);
        Check.due("likes(40, 0)", x.likes(40, 0), 1);
        Check.due("step()", x.step(), 40);
        Check.due("got(0)", x.got(0), 1);
        Check.due("trays(40, 0)", x.trays(40, 0), 9);
        Check.due("sum(0)", x.sum(0), 9);
        Check.due("sum(3)", x.sum(3), 9);
        Check.due("waits(0)", x.waits(0), 540);
        Check.due("finish()", x.finish(), 39);
        Check.due("sum(0)", x.sum(0), 360);
        Check.due("seconds(0)", x.seconds(0), 40 * 540 + 39 * 60);
        Check.due("waits(0) at the end", x.waits(0), 600);
        Check.due("on(0, 600)", x.on(0, 600), 39);
        Check.due("clear(0)", x.clear(0), 360);
        Check.due("room(0, 8)", x.room(0, 8), 0);
        Check.due("room(0, 9)", x.room(0, 9), 40);
        Check.due("meets(40)", x.meets(40), 40 * 540 + 39 * 60);
        Check.due("lacking(0)", x.lacking(0), 0);
        Check.due("ways(2)", x.ways(2), 1);
        Check.due("ways(40)", x.ways(40), -1);
        TwoTrolleys y = Check.flight(head + ";trolley f front drawers 1 holds 8;load f a many 9");
        Check.due("finish()", y.finish(), 40);
        Check.due("met()", y.met(), y.size(0) - rowsBy(y, 0));
        Check.due("the ROWS of both", rowsBy(y, 0) + rowsBy(y, 1), 40);
        Check.due("lacking(40)", y.lacking(40), 351);
        Check.due("lacking(0)", y.lacking(0), 0);
        Check.due("fairest()", y.fairest(), 0);
        Check.due("soonest()", y.soonest(), 20);
    }

    private static int rowsBy(TwoTrolleys x, int trolley) {
        int rows = 0;
        for (int row = 1; row <= 40; row++) {
            rows += x.served(row, 0) == trolley ? 1 : 0;
        }
        return rows;
    }
}
