/** Bounds of promises 35 to 39: a trolley on a ROW to the second, WAITS, drawers filled to the eighth, FEWEST up to 24. */
public final class EdgePastTest {
    private static final String FRONT = ";trolley tf front drawers 1 holds 8";
    private static final String BACK = ";trolley tb back drawers 1 holds 8";

    public static void main(String[] args) {
        onToTheSecond();
        onBehindBelts();
        onRowsOfNoTime();
        onSoFar();
        lastSecond();
        waitsToTheSecond();
        fromOneToTheOther();
        gapsInTheWay();
        bothTrolleysInTheWay();
        waitsSoFar();
        clearToTheEighth();
        firstDrawerWithRoom();
        firstThatWontGoIn();
        rowByRow();
        clearOfAllTrays();
        clearOfFourKinds();
        everyDrawer();
        fitsToTheEighth();
        fewestUpTo24();
        fewestAtBest();
        Check.end("EdgePastTest");
    }

    private static String cabin(int rows, int walk, int serve) {
        return "cabin rows " + rows + " walk " + walk + " serve " + serve + ";heat least 0 cools 0"
                + ";kind a shape 1 hot 1;kind b shape 2 hot 1;kind c shape 5 hot 1";
    }

    /** ROW 1 from 0 to 30, ROW 2 from 40 to 70, ROW 3 from 80 to 110. */
    private static TwoTrolleys threeRows(String more) {
        return Check.flight(cabin(3, 10, 30) + FRONT + ";load tf a many 9;block 1 to 3 seats 1 likes a 1" + more);
    }

    private static void on(TwoTrolleys x, int trolley, int second, int row) {
        Check.due(x, "on(" + trolley + ", " + second + ")", x.on(trolley, second), row, 0);
    }

    /** From its BEGINNING, this second too, up to the next BEGINNING, that second not; of the last to its end, that second not. */
    private static void onToTheSecond() {
        TwoTrolleys x = threeRows("");
        x.finish();
        int[] seconds = {0, 1, 29, 30, 31, 39, 40, 41, 69, 70, 79, 80, 109, 110, 111, 99998, 99999};
        int[] rows = {1, 1, 1, 1, 1, 1, 2, 2, 2, 2, 2, 3, 3, -2, -2, -2, -2};
        for (int i = 0; i < seconds.length; i++) {
            on(x, 0, seconds[i], rows[i]);
        }
        TwoTrolleys y = Check.flight(cabin(3, 10, 30) + BACK + ";load tb a many 9;block 1 to 3 seats 1 likes a 1");
        y.finish();
        for (int i = 0; i < seconds.length; i++) {
            on(y, 0, seconds[i], rows[i] == -2 ? -2 : 4 - rows[i]);
        }
    }

    /** It waits for belts on the ROW that it has served; ahead of its first ROW it is on none. */
    private static void onBehindBelts() {
        TwoTrolleys x = threeRows(";belts 0 to 1;belts 2 to 3");
        x.finish();
        // ROW 1 from 60 to 90, ROW 2 from 100 to 130, ROW 3 from 190 on.
        int[] seconds = {0, 59, 60, 89, 90, 99, 100, 129, 130, 180, 189, 190, 219, 220};
        int[] rows = {-2, -2, 1, 1, 1, 1, 2, 2, 2, 2, 2, 3, 3, -2};
        for (int i = 0; i < seconds.length; i++) {
            on(x, 0, seconds[i], rows[i]);
        }
    }

    /** A ROW without trays is left at the next BEGINNING; without a walk it takes no second at all. */
    private static void onRowsOfNoTime() {
        TwoTrolleys x = Check.flight(cabin(3, 10, 30) + FRONT);
        x.finish();
        int[] rows = {1, 1, 2, 2, -2, -2};
        for (int i = 0; i < rows.length; i++) {
            on(x, 0, 5 * i, rows[i]);
        }
        on(x, 0, 19, 2);
        on(x, 0, 20, -2);
        TwoTrolleys y = Check.flight(cabin(3, 0, 30) + FRONT + ";load tf a many 9;block 3 to 3 seats 1 likes a 1");
        y.finish();
        on(y, 0, 0, 3);
        on(y, 0, 29, 3);
        on(y, 0, 30, -2);
        TwoTrolleys z = Check.flight(cabin(3, 0, 30) + BACK + ";load tb a many 9;block 3 to 3 seats 1 likes a 1");
        z.finish();
        on(z, 0, 0, 3);
        on(z, 0, 30, -2);
    }

    /** The last ROW is the last so far: each STEP lengthens the stay on the one before it. */
    private static void onSoFar() {
        TwoTrolleys x = threeRows("");
        on(x, 0, 0, -2);
        x.step();
        on(x, 0, 0, 1);
        on(x, 0, 29, 1);
        on(x, 0, 30, -2);
        on(x, 0, 40, -2);
        x.step();
        on(x, 0, 30, 1);
        on(x, 0, 39, 1);
        on(x, 0, 40, 2);
        on(x, 0, 69, 2);
        on(x, 0, 70, -2);
        x.start(0);
        on(x, 0, 0, -2);
    }

    private static void lastSecond() {
        TwoTrolleys x = Check.flight(cabin(2, 60, 60) + FRONT + BACK);
        on(x, 0, 99999, -2);
        on(x, 1, 0, -2);
        Check.due(x, "on(0, 100000)", x.on(0, 100000), -1, 2);
        Check.due(x, "on(1, -1)", x.on(1, -1), -1, 2);
        Check.due(x, "on(2, 0)", x.on(2, 0), -1, 1);
        Check.due(x, "on(-1, 0)", x.on(-1, 0), -1, 1);
    }

    /** Serve and walk so that ROWS begin and end at whole minutes. */
    private static void waits(int at, int from, int to, String more, int want) {
        // ROW 1 from 0 to 60, ROW 2 from 120 to 180, ROW 3 from 240 to 300.
        TwoTrolleys x = Check.flight(cabin(3, 60, 60) + FRONT + ";load tf a many 9;block 1 to 3 seats 1 likes a 1" + more
                + ";past at " + at + " from " + from + " to " + to);
        x.finish();
        Check.due(x, "waits(0) at " + at + " from " + from + " to " + to + more, x.waits(0), want, 0);
    }

    /** At its minute's first second: where a ROW begins it waits, where the ROW's stay ends it doesn't. */
    private static void waitsToTheSecond() {
        int[] ofRowOne = {120, 60, 0, 0, 0, 0};
        int[] ofRowTwo = {0, 0, 120, 60, 0, 0};
        int[] ofRowThree = {0, 0, 0, 0, 60, 0};
        for (int at = 0; at <= 5; at++) {
            waits(at, 1, 1, "", ofRowOne[at]);
            waits(at, 2, 2, "", ofRowTwo[at]);
            waits(at, 3, 3, "", ofRowThree[at]);
            waits(at, 1, 3, "", 300 - 60 * at);
        }
        waits(300, 1, 3, "", 0);
    }

    /** Both too, told either way round; beyond the cabin too. */
    private static void fromOneToTheOther() {
        waits(0, 1, 2, "", 240);
        waits(0, 2, 1, "", 240);
        waits(2, 2, 3, "", 180);
        waits(2, 3, 2, "", 180);
        waits(0, 2, 3, "", 0);
        waits(2, 1, 1, "", 0);
        waits(2, 3, 40, "", 0);
        waits(2, 2, 40, "", 180);
        waits(2, 40, 2, "", 180);
        waits(4, 4, 40, "", 0);
        waits(4, 40, 1, "", 60);
    }

    /** A gap is not in the way, be it the first, one in the middle, or the last. */
    private static void gapsInTheWay() {
        waits(0, 1, 3, ";gap 1", 0);
        waits(0, 1, 3, ";gap 2", 120);
        waits(0, 1, 3, ";gap 3", 240);
        waits(2, 1, 3, ";gap 3", 120);
        waits(2, 1, 3, ";gap 2;gap 3", 0);
        waits(0, 1, 3, ";gap 1;gap 2;gap 3", 0);
        waits(0, 1, 3, ";gap 4;gap 40;gap 3", 240);
        waits(3, 1, 3, ";gap 1", 120);
        waits(3, 1, 3, ";gap 2", 0);
    }

    /** It waits for one behind the other: ROW 1's stay, that of ROW 4 meanwhile, then ROW 2. */
    private static void bothTrolleysInTheWay() {
        String text = cabin(4, 30, 30) + BACK + FRONT + ";load tf a many 9;load tb a many 9;block 1 to 4 seats 2 likes a 1"
                + ";block 4 to 4 seats 3 likes a 1";
        // Front: ROW 1 from 0, ROW 2 from 90 to 150. Back: ROW 4 from 0, ROW 3 from 120 to 180.
        int[][] pasts = {{0, 1, 1, 90}, {0, 4, 4, 120}, {0, 1, 4, 180}, {0, 3, 4, 180}, {0, 1, 2, 150}, {1, 1, 1, 30},
            {1, 4, 1, 120}, {2, 2, 2, 30}, {2, 3, 3, 60}, {2, 2, 3, 60}, {3, 1, 4, 0}, {1, 2, 3, 0}};
        for (int[] p : pasts) {
            TwoTrolleys x = Check.flight(text + ";past at " + p[0] + " from " + p[1] + " to " + p[2]);
            x.finish();
            Check.due(x, "waits at " + p[0] + " from " + p[1] + " to " + p[2], x.waits(0), p[3], 0);
        }
        // Both at once, and each by itself: what one leaves the other still holds.
        TwoTrolleys y = Check.flight(text + ";gap 1;past at 0 from 1 to 4;past at 1 from 1 to 3;past at 2 from 4 to 1;past at 0 from 1 to 3");
        y.finish();
        Check.due("ROW 4, then 2 and 3", y.waits(0), 180);
        Check.due("ROW 1 is a gap", y.waits(1), 0);
        Check.due("ROWS 2 and 3", y.waits(2), 60);
        Check.due("nobody yet", y.waits(3), 0);
        Check.due(y, "waits(4)", y.waits(4), -1, 1);
    }

    private static void waitsSoFar() {
        TwoTrolleys x = Check.flight(cabin(3, 60, 60) + FRONT + ";load tf a many 9;block 1 to 3 seats 1 likes a 1"
                + ";past at 0 from 1 to 3;past at 1 from 1 to 3;past at 4 from 3 to 3");
        int[] first = {0, 60, 180, 300};
        int[] second = {0, 0, 120, 240};
        int[] third = {0, 0, 0, 60};
        for (int steps = 0; steps <= 3; steps++) {
            Check.due(x, "waits(0) behind " + steps, x.waits(0), first[steps], 0);
            Check.due(x, "waits(1) behind " + steps, x.waits(1), second[steps], 0);
            Check.due(x, "waits(2) behind " + steps, x.waits(2), third[steps], 0);
            x.step();
        }
        Check.due(x, "waits(3)", x.waits(3), -1, 1);
    }

    /** So many trays of a shape handed, and a trolley with such drawers: how many go in, and what is left in the last. */
    private static void clearToTheEighth() {
        int[][] cases = {{8, 1, 8, 0}, {8, 1, 9, 0}, {9, 1, 9, 0}, {8, 2, 4, 0}, {9, 2, 4, 1}, {9, 2, 5, 1}, {10, 2, 5, 0},
            {8, 5, 1, 3}, {9, 5, 2, 4}, {10, 5, 2, 0}, {14, 5, 2, 4}, {15, 5, 3, 0}, {40, 5, 8, 0}, {40, 5, 9, 0}, {8, 8, 1, 0}, {15, 8, 2, 7}, {16, 8, 2, 0}};
        for (int[] c : cases) {
            TwoTrolleys x = Check.flight("cabin rows 2 walk 0 serve 1;heat least 0 cools 0;kind k shape " + c[1] + " hot 1"
                    + ";trolley t front drawers 1 holds " + c[0] + ";load t k many 99;block 1 to 1 seats " + c[2] + " likes k 1");
            x.finish();
            Check.due(x, "clear() of " + c[2] + " by " + c[1] + " into " + c[0], x.clear(0), Math.min(c[2], c[0] / c[1]), 0);
            Check.due(x, "room() of " + c[2] + " by " + c[1] + " into " + c[0], x.room(0, 0), c[3], 0);
        }
    }

    /** Each into the first drawer with room, an earlier one too, if a lesser shape finds room there. */
    private static void firstDrawerWithRoom() {
        // 5 5 2 1 by KINDS told so: 5 | 5, then 2 into the first, 1 into the first.
        TwoTrolleys x = Check.flight("cabin rows 2 walk 0 serve 1;heat least 0 cools 0;kind c shape 5 hot 1;kind b shape 2 hot 1;kind a shape 1 hot 1"
                + ";trolley t front drawers 3 holds 8;load t a many 1;load t b many 1;load t c many 2"
                + ";named n row 1 eats a;named m row 1 eats b;named o row 1 eats c;named p row 1 eats c");
        x.finish();
        Check.due("clear(0)", x.clear(0), 4);
        Check.due("room(0, 0)", x.room(0, 0), 0);
        Check.due("room(0, 1)", x.room(0, 1), 3);
        Check.due("room(0, 2)", x.room(0, 2), 8);
        Check.due(x, "room(0, 3)", x.room(0, 3), -1, 1);
        Check.due("fitsIn(0) alike", x.fitsIn(0), 1);
    }

    /** The first that won't go in ends it; lesser ones behind it stay out, too. */
    private static void firstThatWontGoIn() {
        String head = "cabin rows 3 walk 0 serve 1;heat least 0 cools 0;kind c shape 5 hot 1;kind a shape 1 hot 1"
                + ";trolley t front drawers 1 holds 8;load t a many 9;load t c many 9";
        TwoTrolleys x = Check.flight(head + ";named n row 1 eats c;named m row 2 eats c;named o row 3 eats a");
        x.finish();
        Check.due("clear(0)", x.clear(0), 1);
        Check.due("room(0, 0)", x.room(0, 0), 3);
        TwoTrolleys y = Check.flight(head + ";named n row 1 eats c;named m row 1 eats a;named o row 2 eats a;named p row 2 eats a;named q row 2 eats a");
        y.finish();
        Check.due("clear(0) of all but one", y.clear(0), 4);
        Check.due("room(0, 0)", y.room(0, 0), 0);
    }

    /** ROW by ROW from the first on, whoever served it first; in a ROW KIND by KIND, whoever got it first. */
    private static void rowByRow() {
        String head = "cabin rows 2 walk 0 serve 1;heat least 0 cools 0;kind c shape 5 hot 1;kind a shape 3 hot 1"
                + ";trolley t back drawers 1 holds 9;load t a many 9;load t c many 9";
        TwoTrolleys x = Check.flight(head + ";named n row 2 eats c;named m row 1 eats a;named o row 1 eats a");
        x.finish();
        Check.due("3 3, then 5 won't", x.clear(0), 2);
        Check.due("room(0, 0)", x.room(0, 0), 3);
        TwoTrolleys y = Check.flight(head + ";named n row 1 eats a child;named m row 1 eats a;named o row 1 eats c");
        y.finish();
        Check.due("5 3, then 3 won't", y.clear(0), 2);
        Check.due("room(0, 0)", y.room(0, 0), 1);
    }

    /** The trays of both trolleys go into the one that is asked. */
    private static void clearOfAllTrays() {
        TwoTrolleys x = Check.flight(cabin(2, 0, 1) + ";trolley tf front drawers 1 holds 8;trolley tb back drawers 2 holds 9"
                + ";load tf b many 9;load tb c many 9;block 1 to 1 seats 2 likes b 1;block 2 to 2 seats 2 likes c 1");
        Check.due(x, "clear(0) ahead of all", x.clear(0), 0, 0);
        Check.due(x, "room(0, 0) ahead of all", x.room(0, 0), 8, 0);
        x.step();
        Check.due(x, "clear(1) behind ROW 1", x.clear(1), 2, 0);
        Check.due(x, "room(1, 0)", x.room(1, 0), 5, 0);
        x.step();
        Check.due(x, "clear(0)", x.clear(0), 2, 0);
        Check.due(x, "room(0, 0)", x.room(0, 0), 4, 0);
        Check.due(x, "clear(1), all four", x.clear(1), 4, 0);
        Check.due(x, "room(1, 0)", x.room(1, 0), 0, 0);
        Check.due(x, "room(1, 1)", x.room(1, 1), 4, 0);
        Check.due("trays handed stay so", x.sum(0), 4);
        Check.due("nothing comes back to what is left", x.left(0, 1), 7);
    }

    /** Four KINDS in each ROW, served from both ends: each tray handed once, and no more. */
    private static void clearOfFourKinds() {
        StringBuilder text = new StringBuilder("cabin rows 3 walk 0 serve 9;heat least 0 cools 0;kind a shape 1 hot 1;kind b shape 2 hot 1"
                + ";kind c shape 4 hot 1;kind d shape 8 hot 1;trolley tf front drawers 1 holds 15;trolley tb back drawers 3 holds 15");
        for (char kind = 'a'; kind <= 'd'; kind++) {
            text.append(";load tf ").append(kind).append(" many 9;load tb ").append(kind).append(" many 9");
        }
        text.append(";named na row 3 eats a;named nb row 3 eats b;named nc row 3 eats c;named nd row 3 eats d;named ne row 1 eats d;named nf row 2 eats a");
        TwoTrolleys x = Check.flight(text.toString());
        x.finish();
        Check.due("trays", x.sum(0), 6);
        // 8 | 1 | 1 2 4 8: the first drawer takes 8 1 1 2, the second 4 8.
        Check.due(x, "clear(1)", x.clear(1), 6, 0);
        Check.due(x, "room(1, 0)", x.room(1, 0), 3, 0);
        Check.due(x, "room(1, 1)", x.room(1, 1), 3, 0);
        Check.due(x, "room(1, 2)", x.room(1, 2), 15, 0);
        Check.due(x, "clear(0)", x.clear(0), 4, 0);
        Check.due(x, "room(0, 0)", x.room(0, 0), 3, 0);
    }

    private static void everyDrawer() {
        TwoTrolleys x = Check.flight(cabin(2, 0, 1) + ";trolley tf front drawers 14 holds 8;trolley tb back drawers 1 holds 40");
        for (int drawer = 0; drawer < 14; drawer++) {
            Check.due(x, "room(0, " + drawer + ")", x.room(0, drawer), 8, 0);
        }
        Check.due(x, "room(0, 14)", x.room(0, 14), -1, 1);
        Check.due(x, "room(0, -1)", x.room(0, -1), -1, 1);
        Check.due(x, "room(1, 0)", x.room(1, 0), 40, 0);
        Check.due(x, "room(1, 1)", x.room(1, 1), -1, 1);
        Check.due(x, "room(2, 0)", x.room(2, 0), -1, 1);
        Check.due(x, "room(-1, 0)", x.room(-1, 0), -1, 1);
    }

    /** Loaded up to the last eighth, and one tray more. */
    private static void fitsToTheEighth() {
        int[][] cases = {{1, 8, 1, 8}, {14, 40, 8, 70}, {14, 8, 8, 14}, {2, 9, 5, 2}, {2, 10, 5, 4}, {3, 15, 5, 9}, {2, 9, 2, 8}};
        for (int[] c : cases) {
            for (int more = -1; more <= 1; more++) {
                int many = c[3] + more;
                TwoTrolleys x = Check.flight("cabin rows 2 walk 0 serve 1;heat least 0 cools 0;kind k shape " + c[2] + " hot 1;trolley t back drawers "
                        + c[0] + " holds " + c[1] + ";load t k many " + many);
                Check.due(x, "fitsIn(0) of " + many, x.fitsIn(0), more > 0 ? 0 : 1, 0);
                Check.due(x, "fewest() of " + many, x.fewest(0, Math.min(24, many), 0, 0, 0), drawers(Math.min(24, many), c[1] / c[2]), 0);
            }
        }
        TwoTrolleys none = Check.flight("cabin rows 2 walk 0 serve 1;heat least 0 cools 0;kind k shape 8 hot 1;trolley t back drawers 1 holds 8");
        Check.due(none, "fitsIn(0) of nothing", none.fitsIn(0), 1, 0);
        Check.due(none, "fitsIn(1)", none.fitsIn(1), -1, 1);
    }

    private static int drawers(int many, int each) {
        return (many + each - 1) / each;
    }

    /** 24 trays together, of one KIND or of several; 25 are too many. */
    private static void fewestUpTo24() {
        TwoTrolleys x = Check.flight("cabin rows 2 walk 0 serve 1;heat least 0 cools 0;kind a shape 1 hot 1;kind b shape 1 hot 1;kind c shape 1 hot 1"
                + ";kind d shape 1 hot 1;trolley t front drawers 1 holds 8");
        int[][] trays = {{24, 0, 0, 0}, {0, 24, 0, 0}, {0, 0, 24, 0}, {0, 0, 0, 24}, {6, 6, 6, 6}, {1, 1, 1, 21}, {12, 0, 0, 12}, {0, 8, 8, 8}, {5, 7, 5, 7}};
        for (int[] t : trays) {
            Check.due(x, "24", x.fewest(0, t[0], t[1], t[2], t[3]), 3, 0);
            Check.due(x, "25 by the first", x.fewest(0, t[0] + 1, t[1], t[2], t[3]), -1, 3);
            Check.due(x, "25 by the second", x.fewest(0, t[0], t[1] + 1, t[2], t[3]), -1, 3);
            Check.due(x, "25 by the third", x.fewest(0, t[0], t[1], t[2] + 1, t[3]), -1, 3);
            Check.due(x, "25 by the last", x.fewest(0, t[0], t[1], t[2], t[3] + 1), -1, 3);
        }
        int[] drawers = {0, 1, 1, 2, 2, 3};
        int[] many = {0, 1, 8, 9, 16, 17};
        for (int i = 0; i < many.length; i++) {
            Check.due(x, "fewest() of " + many[i], x.fewest(0, 0, many[i], 0, 0), drawers[i], 0);
        }
    }

    /** At best: where the first drawer with room, or the greatest shapes first, would need one more. */
    private static void fewestAtBest() {
        String head = "cabin rows 2 walk 0 serve 1;heat least 0 cools 0;";
        TwoTrolleys x = Check.flight(head + "kind a shape 2 hot 1;kind b shape 3 hot 1;kind c shape 5 hot 1;kind d shape 6 hot 1;trolley t front drawers 1 holds 8");
        Check.due("2 and 6, 3 and 5", x.fewest(0, 1, 1, 1, 1), 2);
        Check.due("six of each pair", x.fewest(0, 6, 6, 6, 6), 12);
        Check.due("2 3 3 | 2 3 3", x.fewest(0, 2, 4, 0, 0), 2);
        Check.due("2 3 3 | 2 3 3 | 3", x.fewest(0, 2, 5, 0, 0), 3);
        // 4 4 4 | 6 6 | of 12, the greatest first would put 6 with 4.
        TwoTrolleys y = Check.flight(head + "kind a shape 6 hot 1;kind b shape 5 hot 1;kind c shape 4 hot 1;kind d shape 3 hot 1;trolley t back drawers 1 holds 13");
        Check.due("6 4 3 | 5 5 3 | 5 4 4", y.fewest(0, 1, 3, 3, 2), 3);
        Check.due("one more", y.fewest(0, 1, 3, 3, 3), 4);
        Check.due("of the trolley that is asked", twoTrolleys(0), 4);
        Check.due("of the trolley that is asked", twoTrolleys(1), 1);
    }

    private static int twoTrolleys(int trolley) {
        TwoTrolleys x = Check.flight("cabin rows 2 walk 0 serve 1;heat least 0 cools 0;kind a shape 8 hot 1" + FRONT
                + ";trolley tb back drawers 1 holds 40");
        return x.fewest(trolley, 4, 0, 0, 0);
    }
}
