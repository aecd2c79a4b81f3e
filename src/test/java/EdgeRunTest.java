/** Bounds of promises 11 to 23 and of the terms of a RUN: ties, belts to the second, draws, last trays, HEAT, MARKS. */
public final class EdgeRunTest {
    private static final String FRONT = ";trolley tf front drawers 1 holds 8";
    private static final String BACK = ";trolley tb back drawers 1 holds 8";

    public static void main(String[] args) {
        atTheBeginning();
        seeds();
        everyRemainder();
        oneKindDraws();
        ties();
        lastRow();
        walks();
        beltsToTheSecond();
        beltsAgain();
        beltsOfTheBackOne();
        spilt();
        named();
        childrenFirst();
        otherTrolley();
        anotherRun();
        spiltAnew();
        mostLeft();
        nothingLeft();
        heatDownwards();
        batches();
        coldToTheSecond();
        coldMinutes();
        marks();
        Check.end("EdgeRunTest");
    }

    private static String cabin(int rows, int walk, int serve) {
        return "cabin rows " + rows + " walk " + walk + " serve " + serve + ";heat least 0 cools 0"
                + ";kind a shape 1 hot 50;kind b shape 1 hot 60;kind c shape 1 hot 70";
    }

    private static int next(int seed) {
        return (int) ((75L * seed + 74) % 65537);
    }

    private static void atTheBeginning() {
        TwoTrolleys x = Check.flight(cabin(3, 1, 1) + BACK + FRONT + ";load tf a many 2;load tb b many 3;block 1 to 3 seats 1 likes a 1");
        for (int times = 0; times < 4; times++) {
            Check.due("SEED", x.size(13), times % 3 * 32768);
            Check.due("SECONDS", x.seconds(0) + x.seconds(1), 0);
            Check.due("left", x.left(1, 0) * 10 + x.left(0, 1), 23);
            for (int what = 0; what <= 5; what++) {
                Check.due("sum(" + what + ")", x.sum(what), 0);
            }
            for (int row = 1; row <= 3; row++) {
                Check.due(x, "served(" + row + ", 0)", x.served(row, 0), -1, 6);
            }
            Check.due("led(0) throws", Check.ledThrows(x, 0), true);
            Check.due(x, "finish(), all of them", x.finish(), 3, 0);
            Check.due("sum(5)", x.sum(5), 3);
            Check.due(x, "start()", x.start((times + 1) % 3 * 32768), true, 0);
        }
        TwoTrolleys y = Check.flight(cabin(2, 1, 1) + FRONT);
        Check.due(y, "the fewest ROWS", y.finish(), 2, 0);
        Check.due(y, "step() then", y.step(), -1, 6);
    }

    /** SEED goes round at 65,537: the first and the last number, and those that it makes 0 or leaves as they are. */
    private static void seeds() {
        TwoTrolleys x = Check.flight(cabin(2, 0, 1) + FRONT + ";block 1 to 1 seats 1 likes a 1");
        int zero = 0;
        while (next(zero) != 0) {
            zero++;
        }
        int[] seeds = {0, 1, 872, 873, 874, 65535, 65536, zero, zero - 1, zero + 1, 32768, 43691};
        for (int seed : seeds) {
            Check.due(x, "start(" + seed + ")", x.start(seed), true, 0);
            Check.due("SEED", x.size(13), seed);
            x.step();
            Check.due("SEED behind one draw from " + seed, x.size(13), next(seed));
            x.step();
            Check.due("a ROW without seats draws nothing", x.size(13), next(seed));
        }
        x.start(zero);
        x.finish();
        Check.due("SEED 0", x.size(13), 0);
        x.start(65536);
        x.finish();
        Check.due("SEED 65,536", x.size(13), 65536);
    }

    /** The draw mod the sum of the weights, by the block's KINDS: each remainder falls on the KIND that is due. */
    private static void everyRemainder() {
        int[][] weights = {{1, 1, 1}, {2, 3, 4}, {9, 1, 9}, {1, 9, 2}};
        for (int[] w : weights) {
            TwoTrolleys x = Check.flight(cabin(2, 0, 1) + FRONT + ";load tf a many 1;load tf b many 1;load tf c many 1"
                    + ";block 1 to 1 seats 1 likes c " + w[0] + ",a " + w[1] + ",b " + w[2]);
            int sum = w[0] + w[1] + w[2];
            for (int rest = 0; rest < sum; rest++) {
                int seed = 0;
                while (next(seed) % sum != rest) {
                    seed += 1009;
                }
                x.start(seed);
                x.step();
                int kind = rest < w[0] ? 2 : rest < w[0] + w[1] ? 0 : 1;
                Check.due("the tray for " + rest + " of " + sum, x.trays(1, kind), 1);
                Check.due("NO CHOICE", x.served(1, 3), 0);
            }
        }
    }

    private static void oneKindDraws() {
        TwoTrolleys x = Check.flight(cabin(2, 0, 1) + FRONT + ";load tf a many 1;block 1 to 2 seats 1 likes a 9");
        x.start(0);
        x.step();
        Check.due("one KIND to like, and it draws", x.size(13), 74);
        x.step();
        Check.due("nothing left, and it draws", x.size(13), next(74));
        Check.due("NOTHING", x.served(2, 4), 1);
        // By a sum of 1 each remainder is 0, whatever SEED is.
        TwoTrolleys y = Check.flight(cabin(2, 0, 1) + FRONT + ";load tf a many 9;load tf b many 99;load tf c many 9;block 1 to 2 seats 9 likes c 1");
        y.start(12345);
        y.step();
        Check.due("all nine get it", y.trays(1, 2), 9);
        Check.due("NO CHOICE", y.served(1, 3), 0);
    }

    /** Of like SECONDS the front one goes, one second more or less decides; which is told first is of no matter. */
    private static void ties() {
        String[] orders = {FRONT + BACK, BACK + FRONT};
        for (int order = 0; order < 2; order++) {
            // Front: ROW 1 up to 9 times the seats; back: ROW 5 alike.
            for (int seats = 1; seats <= 3; seats++) {
                TwoTrolleys x = Check.flight(cabin(5, 1, 9) + orders[order] + ";load tf a many 9;load tb a many 9"
                        + ";block 1 to 1 seats 2 likes a 1;block 5 to 5 seats " + seats + " likes a 1");
                Check.due("first", x.step(), 1);
                Check.due("second", x.step(), 5);
                Check.due("third with " + seats, x.step(), seats < 2 ? 4 : 2);
                Check.due("by which trolley", x.served(seats < 2 ? 4 : 2, 0), seats < 2 ? 1 - order : order);
            }
        }
        TwoTrolleys y = Check.flight(cabin(3, 1, 9) + BACK + FRONT + ";load tf a many 9;load tb a many 9"
                + ";block 1 to 3 seats 1 likes a 1");
        y.finish();
        Check.due("the last ROW goes to the front one", y.served(2, 0), 1);
        Check.due("met()", y.met(), 2);
    }

    /** The last ROW left is taken from either end. */
    private static void lastRow() {
        TwoTrolleys x = Check.flight(cabin(2, 1, 9) + BACK + FRONT + ";load tf a many 9;load tb a many 9;block 1 to 1 seats 1 likes a 1");
        Check.due("step()", x.step(), 1);
        Check.due("step()", x.step(), 2);
        Check.due("by the back one", x.served(2, 0), 0);
        Check.due("met()", x.met(), 1);
        // Without seats in ROW 1 the front one has 0 SECONDS yet, and goes on.
        TwoTrolleys y = Check.flight(cabin(2, 1, 9) + BACK + FRONT + ";load tf a many 9;load tb a many 9;block 2 to 2 seats 1 likes a 1");
        Check.due("step()", y.step(), 1);
        Check.due("step()", y.step(), 2);
        Check.due("by the front one", y.served(2, 0), 1);
        Check.due("met()", y.met(), 2);
        Check.due("the back one served none", y.seconds(0), 0);
        Check.due("on none", y.on(0, 0), -2);
    }

    /** No walk to the first ROW, whichever it is, one walk to each other one, with seats or without. */
    private static void walks() {
        TwoTrolleys x = Check.flight(cabin(4, 60, 1) + FRONT + ";load tf a many 9;block 3 to 3 seats 2 likes a 1");
        x.finish();
        int[] begins = {0, 60, 120, 182};
        for (int row = 1; row <= 4; row++) {
            Check.due("BEGINNING of " + row, x.served(row, 1), begins[row - 1]);
            Check.due("end of " + row, x.served(row, 2), begins[row - 1] + (row == 3 ? 2 : 0));
            Check.due("trays in " + row, x.served(row, 6), row == 3 ? 2 : 0);
        }
        Check.due("seconds(0)", x.seconds(0), 182);
        TwoTrolleys y = Check.flight(cabin(4, 60, 1) + BACK + ";load tb a many 9;block 3 to 3 seats 2 likes a 1");
        y.finish();
        Check.due("back: ROW 4", y.served(4, 1), 0);
        Check.due("back: ROW 3", y.served(3, 1), 60);
        Check.due("back: ROW 1", y.served(1, 1), 182);
        TwoTrolleys z = Check.flight(cabin(4, 0, 1) + FRONT);
        z.finish();
        Check.due("no walk at all", z.seconds(0), 0);
    }

    /** A trolley that ends ROW 1 at a second, and the BEGINNING of ROW 2. */
    private static void belts(int serve, int seats, String belts, int begin, int spilt) {
        TwoTrolleys x = Check.flight(cabin(2, 7, serve) + FRONT + ";load tf a many 99;block 1 to 1 seats " + seats + " likes a 1" + belts);
        x.finish();
        String name = "at " + serve * seats + " with" + belts;
        Check.due("BEGINNING " + name, x.served(2, 1), begin + 7);
        Check.due("SPILT " + name, x.sum(4), spilt);
    }

    /** From the first minute's first second on, ahead of the second minute's first second. */
    private static void beltsToTheSecond() {
        belts(59, 1, ";belts 1 to 2", 59, 0);
        belts(60, 1, ";belts 1 to 2", 120, 0);
        belts(17, 7, ";belts 1 to 2", 120, 1);
        belts(60, 2, ";belts 1 to 2", 120, 1);
        belts(59, 2, ";belts 1 to 2", 120, 1);
        belts(11, 11 - 2, ";belts 1 to 2", 99 + 21, 1);
        belts(30, 4, ";belts 1 to 2", 120, 1);
        belts(40, 3, ";belts 1 to 2", 120, 1);
        belts(41, 3, ";belts 1 to 2", 123, 1);
        belts(60, 1, ";belts 2 to 3", 60, 0);
        belts(60, 1, ";belts 1 to 400", 24000, 0);
        belts(60, 5, ";belts 300 to 400", 300, 0);
        TwoTrolleys x = Check.flight(cabin(2, 7, 59) + FRONT + ";load tf a many 99;block 1 to 2 seats 1 likes a 1;belts 0 to 1");
        x.finish();
        Check.due("it waits at its first ROW", x.served(1, 1), 60);
        Check.due("nothing spilt", x.sum(4), 0);
    }

    /** Again, till the minute is none of belts, in whatever order they are told. */
    private static void beltsAgain() {
        String[] chains = {";belts 1 to 2;belts 2 to 3;belts 3 to 4", ";belts 3 to 4;belts 2 to 3;belts 1 to 2",
            ";belts 2 to 3;belts 3 to 4;belts 1 to 2", ";belts 1 to 3;belts 2 to 4;belts 1 to 2", ";belts 1 to 4;belts 1 to 2;belts 2 to 3"};
        for (String chain : chains) {
            belts(60, 1, chain, 240, 0);
        }
        belts(60, 1, ";belts 1 to 2;belts 3 to 4", 120, 0);
        belts(60, 1, ";belts 1 to 2;belts 1 to 2;belts 1 to 2", 120, 0);
        belts(60, 1, ";belts 4 to 5;belts 1 to 4", 300, 0);
    }

    /** Each trolley waits by its own SECONDS; the one that waits isn't behind in turn. */
    private static void beltsOfTheBackOne() {
        TwoTrolleys x = Check.flight(cabin(5, 10, 30) + BACK + FRONT + ";load tf a many 9;load tb a many 9"
                + ";block 1 to 1 seats 2 likes a 1;block 5 to 5 seats 1 likes a 1;block 2 to 4 seats 1 likes a 1;belts 1 to 2");
        Check.due("step()", x.step(), 1);
        Check.due("step()", x.step(), 5);
        Check.due("step()", x.step(), 4);
        Check.due("at 30 it goes", x.served(4, 1), 40);
        Check.due("step(), 60 ahead of 70", x.step(), 2);
        Check.due("at 60 it waits", x.served(2, 1), 130);
        Check.due("step(), 70 ahead of 160", x.step(), 3);
        Check.due("at 70 it waits too", x.served(3, 1), 130);
        Check.due("SPILT in ROW 4", x.sum(4), 1);
    }

    /** Belts that begin above the BEGINNING and below the end, each LINE and each ROW by itself. */
    private static void spilt() {
        // ROW 1 from 0, ROW 2 behind a walk of 60: its BEGINNING is 60 times the seats of ROW 1 and 60.
        spilt(1, 1, ";belts 2 to 3", 0);
        spilt(1, 2, ";belts 2 to 3", 0);
        spilt(1, 2, ";belts 3 to 4", 1);
        spilt(1, 2, ";belts 4 to 5", 0);
        spilt(1, 3, ";belts 4 to 5", 1);
        spilt(1, 9, ";belts 3 to 4;belts 3 to 4;belts 10 to 11", 3);
        spilt(1, 9, ";belts 3 to 4;belts 3 to 9;belts 11 to 12", 2);
        spilt(3, 1, ";belts 1 to 2;belts 2 to 3", 2);
        spilt(3, 9, ";belts 1 to 2;belts 5 to 6;belts 300 to 301", 2);
        TwoTrolleys none = Check.flight(cabin(2, 60, 60) + FRONT + ";block 1 to 2 seats 3 likes a 1;belts 1 to 2");
        none.finish();
        Check.due("no trays, nothing spilt", none.sum(4), 0);
        TwoTrolleys both = Check.flight(cabin(2, 60, 60) + FRONT + BACK + ";load tf a many 9;load tb a many 9;block 1 to 2 seats 2 likes a 1;belts 1 to 2");
        both.step();
        Check.due("by the front one", both.sum(4), 1);
        both.step();
        Check.due("by both", both.sum(4), 2);
    }

    private static void spilt(int seats, int others, String belts, int want) {
        TwoTrolleys x = Check.flight(cabin(2, 60, 60) + FRONT + ";load tf a many 99;block 1 to 1 seats " + seats
                + " likes a 1;block 2 to 2 seats " + others + " likes a 1" + belts);
        x.finish();
        Check.due("BEGINNING of ROW 2" + belts, x.served(2, 1), 60 * seats + 60);
        Check.due("SPILT with " + seats + ", " + others + belts, x.sum(4), want);
    }

    /** Fewer named ones than seats, as many, and more; without a block; the draws are those of the others. */
    private static void named() {
        StringBuilder text = new StringBuilder(cabin(2, 0, 1) + FRONT + ";load tf a many 99;block 1 to 1 seats 3 likes b 1");
        for (int named = 0; named <= 6; named++) {
            TwoTrolleys x = Check.flight(text.toString());
            x.step();
            Check.due("sits(1) with " + named, x.sits(1), Math.max(3, named));
            Check.due("trays", x.served(1, 6), Math.max(3, named));
            Check.due("NO CHOICE of the others", x.served(1, 3), Math.max(0, 3 - named));
            int seed = 0;
            for (int i = named; i < 3; i++) {
                seed = next(seed);
            }
            Check.due("SEED", x.size(13), seed);
            text.append(";named n").append((char) ('a' + named)).append(" row 1 eats a");
        }
        TwoTrolleys y = Check.flight(cabin(2, 0, 1) + FRONT + ";load tf a many 1;named n row 2 eats a;named m row 2 eats a");
        y.finish();
        Check.due("without a block", y.sits(2), 2);
        Check.due("the first got it", y.got(0), 1);
        Check.due("the second NOTHING", y.got(1), 0);
        Check.due("NOTHING", y.served(2, 4), 1);
        Check.due("led(0)", y.led(0), 2);
    }

    /** One tray: the child gets it, the later child doesn't, and of no children the first LINE does. */
    private static void childrenFirst() {
        String[] eaters = {"", " child"};
        for (int bits = 0; bits < 8; bits++) {
            StringBuilder text = new StringBuilder(cabin(2, 0, 1) + FRONT + ";load tf a many 1;load tf b many 9");
            int winner = bits == 0 ? 0 : Integer.numberOfTrailingZeros(bits);
            for (int i = 0; i < 3; i++) {
                text.append(";named n").append((char) ('a' + i)).append(" row 1 eats a").append(eaters[bits >> i & 1]);
            }
            TwoTrolleys x = Check.flight(text.toString());
            x.step();
            for (int i = 0; i < 3; i++) {
                Check.due("got(" + i + ") of " + bits, x.got(i), i == winner ? 1 : 0);
            }
            Check.due("no other KIND instead", x.trays(1, 1), 0);
            Check.due("NOTHING", x.sum(2), 2);
            Check.due("NO CHOICE", x.sum(1), 0);
        }
        // A child of another ROW is not ahead of this one's; the others of a ROW come behind its named ones.
        TwoTrolleys y = Check.flight(cabin(2, 0, 1) + FRONT + ";load tf a many 2;block 1 to 1 seats 3 likes a 1"
                + ";named n row 2 eats a child;named m row 1 eats a");
        y.finish();
        Check.due("the named one of ROW 1", y.got(1), 1);
        Check.due("one tray is left for two others", y.served(1, 4), 1);
        Check.due("none for ROW 2", y.got(0), 0);
    }

    /** What the other trolley has is of no use. */
    private static void otherTrolley() {
        TwoTrolleys x = Check.flight(cabin(2, 0, 1) + BACK + FRONT + ";load tb a many 9;load tf b many 9"
                + ";block 1 to 1 seats 2 likes a 1;named n row 1 eats a");
        x.step();
        Check.due("ROW 1 is the front one's", x.served(1, 0), 1);
        Check.due("got(0)", x.got(0), 0);
        Check.due("the other one gets b", x.trays(1, 1), 1);
        Check.due("NO CHOICE", x.served(1, 3), 1);
        Check.due("the back one has all", x.left(0, 0), 9);
        Check.due("the front one hasn't", x.left(1, 1), 8);
        Check.due("unloaded(), for a is loaded", x.unloaded(), 0);
        // Four KINDS, and nothing left on the trolley that serves.
        TwoTrolleys y = Check.flight(cabin(2, 0, 1) + ";kind d shape 1 hot 1" + FRONT + BACK + ";load tf d many 1;load tb a many 9;load tb d many 9"
                + ";block 1 to 2 seats 3 likes d 1");
        y.step();
        Check.due("one tray", y.served(1, 6), 1);
        Check.due("NOTHING", y.served(1, 4), 2);
        Check.due("NO CHOICE", y.served(1, 3), 0);
        y.step();
        Check.due("by the back one", y.served(2, 0), 1);
        Check.due("three of d", y.trays(2, 3), 3);
        Check.due("left(1, 0)", y.left(1, 0), 9);
        Check.due("left(1, 3)", y.left(1, 3), 6);
    }

    /** What a named one got is told of this RUN alone: another draw ahead of it takes its tray. */
    private static void anotherRun() {
        TwoTrolleys x = Check.flight(cabin(2, 0, 1) + FRONT + ";load tf a many 1;load tf b many 9;block 1 to 1 seats 1 likes a 1,b 1;named n row 2 eats a");
        int even = 0;
        while (next(even) % 2 != 0) {
            even++;
        }
        int odd = 0;
        while (next(odd) % 2 != 1) {
            odd++;
        }
        for (int times = 0; times < 2; times++) {
            x.start(odd);
            x.finish();
            Check.due("got(0), b was drawn", x.got(0), 1);
            Check.due("mark()", x.mark(), 2 * times);
            x.start(even);
            Check.due(x, "got(0) of a new RUN", x.got(0), -1, 6);
            x.finish();
            Check.due("got(0), a was drawn", x.got(0), 0);
            Check.due("mark()", x.mark(), 2 * times + 1);
        }
        for (int mark = 3; mark >= 0; mark--) {
            x.back(mark);
            Check.due("got(0) of the MARK " + mark, x.got(0), 1 - mark % 2);
            Check.due("NOTHING", x.sum(2), mark % 2);
        }
    }

    /** SPILT begins at 0 with each RUN, and is what it was with a MARK. */
    private static void spiltAnew() {
        TwoTrolleys x = Check.flight(cabin(2, 0, 60) + FRONT + ";load tf a many 99;block 1 to 2 seats 3 likes a 1;belts 1 to 2;belts 2 to 3;belts 5 to 6");
        x.step();
        Check.due("SPILT", x.sum(4), 2);
        x.mark();
        x.finish();
        Check.due("SPILT at the end", x.sum(4), 3);
        x.start(1);
        Check.due("SPILT of none", x.sum(4), 0);
        x.step();
        Check.due("SPILT once more", x.sum(4), 2);
        x.finish();
        x.back(0);
        Check.due("SPILT of the MARK", x.sum(4), 2);
        x.step();
        Check.due("SPILT from there", x.sum(4), 3);
    }

    /** Of what it has most, of like ones the first KIND. */
    private static void mostLeft() {
        int[][] loads = {{1, 1, 1}, {1, 2, 1}, {1, 1, 2}, {2, 2, 1}, {1, 2, 2}, {2, 1, 2}, {0, 1, 1}, {0, 0, 1}, {3, 2, 1}, {98, 99, 99}};
        int[] first = {0, 1, 2, 0, 1, 0, 1, 2, 0, 1};
        for (int i = 0; i < loads.length; i++) {
            StringBuilder text = new StringBuilder(cabin(2, 0, 1) + ";kind d shape 1 hot 1" + FRONT + ";block 1 to 1 seats 1 likes d 1");
            for (int kind = 0; kind < 3; kind++) {
                text.append(loads[i][kind] > 0 ? ";load tf " + (char) ('a' + kind) + " many " + loads[i][kind] : "");
            }
            TwoTrolleys x = Check.flight(text.toString());
            x.step();
            Check.due("most of " + i, x.trays(1, first[i]), 1);
            Check.due("NO CHOICE", x.served(1, 3), 1);
            Check.due("NOTHING", x.served(1, 4), 0);
            Check.due("left", x.left(0, first[i]), loads[i][first[i]] - 1);
        }
    }

    /** The last tray of what is liked, the last one of all, and behind it NOTHING, which takes no time. */
    private static void nothingLeft() {
        TwoTrolleys x = Check.flight(cabin(2, 5, 10) + FRONT + ";load tf a many 1;load tf b many 1;block 1 to 2 seats 3 likes a 1");
        x.step();
        Check.due("trays", x.served(1, 6), 2);
        Check.due("NO CHOICE", x.served(1, 3), 1);
        Check.due("NOTHING", x.served(1, 4), 1);
        Check.due("end", x.served(1, 2), 20);
        x.step();
        Check.due("BEGINNING", x.served(2, 1), 25);
        Check.due("end is BEGINNING", x.served(2, 2), 25);
        Check.due("trays", x.served(2, 6), 0);
        Check.due("NOTHING", x.served(2, 4), 3);
        Check.due("NO CHOICE", x.served(2, 3), 0);
        Check.due("SECONDS", x.seconds(0), 25);
        Check.due("COLD", x.sum(3), 0);
    }

    /** cools times minutes by 10, downwards. */
    private static void heatDownwards() {
        int[] cools = {0, 1, 9, 10, 11, 49, 50};
        for (int c : cools) {
            TwoTrolleys x = Check.flight("cabin rows 2 walk 0 serve 1;heat least 0 cools " + c + ";kind a shape 1 hot 50" + FRONT);
            int[] minutes = {0, 1, 2, 9, 10, 11, 19, 20, 99, 100, 101, 998, 999};
            for (int minute : minutes) {
                Check.due(x, "heat(0, " + minute + ") by " + c, x.heat(0, minute), 50 - c * minute / 10, 0);
            }
        }
    }

    /** Of batches not behind the minute the latest, of this KIND alone; told in any order, told twice. */
    private static void batches() {
        String[] orders = {";batch a at 5;batch a at 9;batch b at 7", ";batch b at 7;batch a at 9;batch a at 5",
            ";batch a at 9;batch a at 5;batch a at 9;batch b at 7;batch a at 5"};
        for (String order : orders) {
            TwoTrolleys x = Check.flight("cabin rows 2 walk 0 serve 1;heat least 0 cools 50;kind a shape 1 hot 99;kind b shape 1 hot 99" + FRONT + order);
            int[] heats = {99, 94, 89, 84, 79, 99, 94, 89, 84, 99, 94};
            int[] others = {99, 94, 89, 84, 79, 74, 69, 99, 94, 89, 84};
            for (int minute = 0; minute <= 10; minute++) {
                Check.due("heat(0, " + minute + ")", x.heat(0, minute), heats[minute]);
                Check.due("heat(1, " + minute + ")", x.heat(1, minute), others[minute]);
            }
        }
    }

    /** By the second of each tray's end, by 60: 59 is minute 0, 60 is minute 1; as hot as least isn't COLD. */
    private static void coldToTheSecond() {
        String tail = ";kind a shape 1 hot 65" + FRONT + ";load tf a many 99;block 1 to 2 seats 9 likes a 1";
        int[] serves = {6, 7, 8, 10, 20, 30, 59, 60};
        for (int serve : serves) {
            // Below 61 from minute 1 on; 60 at minute 1.
            TwoTrolleys x = Check.flight("cabin rows 2 walk 0 serve " + serve + ";heat least 61 cools 50" + tail);
            x.step();
            int cold = 0;
            for (int i = 1; i <= 9; i++) {
                cold += i * serve >= 60 ? 1 : 0;
            }
            Check.due("COLD by serve " + serve, x.served(1, 5), cold);
            TwoTrolleys y = Check.flight("cabin rows 2 walk 0 serve " + serve + ";heat least 60 cools 50" + tail);
            y.step();
            cold = 0;
            for (int i = 1; i <= 9; i++) {
                cold += i * serve >= 120 ? 1 : 0;
            }
            Check.due("COLD below 60 by serve " + serve, y.served(1, 5), cold);
            Check.due("sum(3)", y.sum(3), cold);
        }
        TwoTrolleys z = Check.flight("cabin rows 2 walk 0 serve 20;heat least 65 cools 50" + tail + ";batch a at 1;named n row 1 eats a");
        z.step();
        Check.due("a batch of that very minute warms", z.served(1, 5), 9 - 5);
    }

    private static void coldMinutes() {
        TwoTrolleys x = Check.flight("cabin rows 2 walk 0 serve 1;heat least 40 cools 1;kind a shape 1 hot 99;kind b shape 1 hot 39"
                + ";kind c shape 1 hot 40" + FRONT + ";batch a at 300;batch a at 10");
        Check.due(x, "cold(0, 0)", x.cold(0, 0), 900, 0);
        Check.due(x, "cold(0, 899)", x.cold(0, 899), 900, 0);
        Check.due(x, "cold(0, 900)", x.cold(0, 900), 900, 0);
        Check.due(x, "cold(0, 901)", x.cold(0, 901), 901, 0);
        Check.due(x, "cold(0, 999)", x.cold(0, 999), 999, 0);
        Check.due(x, "cold(1, 0)", x.cold(1, 0), 0, 0);
        Check.due(x, "cold(1, 999)", x.cold(1, 999), 999, 0);
        Check.due(x, "cold(2, 0)", x.cold(2, 0), 10, 0);
        // The last minute that is looked at is 999: cold there or one later.
        TwoTrolleys y = Check.flight("cabin rows 2 walk 0 serve 1;heat least 1 cools 1;kind a shape 1 hot 70;kind b shape 1 hot 69" + FRONT
                + ";batch a at 300;batch b at 300;batch b at 299");
        Check.due(y, "cold(0, 0), at 1,000 it would be", y.cold(0, 0), -2, 0);
        Check.due(y, "cold(0, 999)", y.cold(0, 999), -2, 0);
        Check.due(y, "heat(0, 999)", y.heat(0, 999), 1, 0);
        Check.due(y, "cold(1, 0)", y.cold(1, 0), 990, 0);
        TwoTrolleys z = Check.flight("cabin rows 2 walk 0 serve 1;heat least 1 cools 10;kind a shape 1 hot 0;kind b shape 1 hot 1" + FRONT);
        Check.due(z, "cold(0, 0)", z.cold(0, 0), 0, 0);
        Check.due(z, "cold(1, 0)", z.cold(1, 0), 1, 0);
    }

    /** Four MARKS, numbered as they come; each keeps the RUN and SEED, stays, and leaves the others. */
    private static void marks() {
        TwoTrolleys x = Check.flight(cabin(4, 3, 20) + BACK + FRONT + ";load tf a many 3;load tb b many 3;block 1 to 4 seats 2 likes a 1,b 1"
                + ";named n row 2 eats a;named m row 3 eats c;belts 1 to 2");
        String[] looks = new String[4];
        x.start(99);
        for (int mark = 0; mark < 4; mark++) {
            looks[mark] = run(x);
            Check.due("size(12)", x.size(12), mark);
            Check.due(x, "back(" + mark + ") ahead of it", x.back(mark), false, 1);
            Check.due(x, "mark()", x.mark(), mark, 0);
            x.step();
        }
        Check.due(x, "the fifth mark()", x.mark(), -1, 3);
        int[] order = {3, 0, 2, 2, 1, 3, 0};
        for (int mark : order) {
            x.start(7);
            x.finish();
            Check.due(x, "back(" + mark + ")", x.back(mark), true, 0);
            Check.due("the RUN of " + mark, run(x).equals(looks[mark]), true);
            Check.due("size(12)", x.size(12), 4);
        }
        x.finish();
        Check.due(x, "the fifth mark() once more", x.mark(), -1, 3);
        Check.tell(x, cabin(2, 0, 1) + FRONT);
        Check.due(x, "a new FLIGHT has none", x.back(0), false, 1);
        Check.due(x, "its first mark()", x.mark(), 0, 0);
        Check.due(x, "back(1)", x.back(1), false, 1);
    }

    private static String run(TwoTrolleys x) {
        StringBuilder seen = new StringBuilder();
        seen.append(x.size(13)).append(' ').append(x.sum(0)).append(' ').append(x.sum(4)).append(' ').append(x.sum(5));
        for (int row = 1; row <= 4; row++) {
            seen.append(' ').append(x.served(row, 1)).append(' ').append(x.served(row, 4)).append(' ').append(x.trays(row, 0));
        }
        for (int i = 0; i < 2; i++) {
            seen.append(' ').append(x.seconds(i)).append(' ').append(x.left(i, i)).append(' ').append(x.got(i));
        }
        return seen.toString();
    }
}
