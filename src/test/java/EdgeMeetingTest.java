/** Bounds of promises 24 to 34: MEETING at both ends, ties, lacking, OUT up to ten, hundredths, LOAD upwards. */
public final class EdgeMeetingTest {
    private static final String KINDS = ";heat least 0 cools 0;kind a shape 1 hot 1;kind b shape 1 hot 1;kind c shape 1 hot 1";
    private static final String FRONT = ";trolley tf front drawers 1 holds 8";
    private static final String BACK = ";trolley tb back drawers 1 holds 8";

    public static void main(String[] args) {
        bothEnds();
        noWalkInNoRow();
        soonestOfLikeOnes();
        surplusIsNoHelp();
        fairestOfLikeOnes();
        oneTrolley();
        metAtTheEnd();
        oddsOfNobody();
        tenAhead();
        namedAheadAreNone();
        rowsAheadAlone();
        weights();
        hundredths();
        loadUpwards();
        leastAndGreatest();
        spare();
        unloaded();
        Check.end("EdgeMeetingTest");
    }

    private static String cabin(int rows, int walk, int serve) {
        return "cabin rows " + rows + " walk " + walk + " serve " + serve + KINDS;
    }

    /** x is 0 up to rows: one of the two has all ROWS, the other none. */
    private static void bothEnds() {
        String[] orders = {FRONT + BACK, BACK + FRONT};
        for (String order : orders) {
            TwoTrolleys x = Check.flight(cabin(3, 5, 10) + order + ";block 1 to 1 seats 1 likes a 1;block 2 to 2 seats 2 likes a 1"
                    + ";block 3 to 3 seats 4 likes a 1;load tf a many 2;load tb a many 3;load tb b many 1");
            int[] meets = {80, 65, 40, 80};
            int[] lacking = {3, 2, 1, 5};
            for (int at = 0; at <= 3; at++) {
                Check.due(x, "meets(" + at + ")", x.meets(at), meets[at], 0);
                Check.due(x, "lacking(" + at + ")", x.lacking(at), lacking[at], 0);
            }
            Check.due(x, "meets(4)", x.meets(4), -1, 2);
            Check.due(x, "lacking(4)", x.lacking(4), -1, 2);
            Check.due(x, "meets(-1)", x.meets(-1), -1, 2);
            Check.due(x, "lacking(-1)", x.lacking(-1), -1, 2);
            Check.due(x, "soonest()", x.soonest(), 2, 0);
            Check.due(x, "fairest()", x.fairest(), 2, 0);
        }
        TwoTrolleys y = Check.flight(cabin(40, 60, 60) + FRONT + BACK + ";block 1 to 40 seats 9 likes a 1");
        Check.due("meets(40) of the longest", y.meets(40), 40 * 540 + 39 * 60);
        Check.due("meets(0)", y.meets(0), 40 * 540 + 39 * 60);
        Check.due("meets(39)", y.meets(39), 39 * 540 + 38 * 60);
        Check.due("meets(20)", y.meets(20), 20 * 540 + 19 * 60);
        Check.due("meets(41)", y.meets(41), -1);
        Check.due("lacking(40)", y.lacking(40), 360);
    }

    /** One ROW needs no walk, and no ROW needs none either. */
    private static void noWalkInNoRow() {
        TwoTrolleys x = Check.flight(cabin(2, 60, 1) + FRONT + BACK);
        Check.due("meets(0)", x.meets(0), 60);
        Check.due("meets(1)", x.meets(1), 0);
        Check.due("meets(2)", x.meets(2), 60);
        Check.due("soonest()", x.soonest(), 1);
        TwoTrolleys y = Check.flight(cabin(2, 60, 1) + FRONT + BACK + ";block 2 to 2 seats 1 likes a 1");
        Check.due("meets(1) with a seat", y.meets(1), 1);
        Check.due("meets(0) with a seat", y.meets(0), 61);
    }

    /** The first of like ones, be it 0 or in the middle. */
    private static void soonestOfLikeOnes() {
        int[][] seats = {{0, 0, 0, 0}, {0, 9, 0, 0}, {1, 1, 1, 1}, {9, 0, 0, 0}, {0, 0, 0, 9}, {2, 1, 1, 2}, {5, 0, 0, 5}};
        int[] soonest = {0, 0, 2, 0, 0, 2, 1};
        for (int i = 0; i < seats.length; i++) {
            TwoTrolleys x = Check.flight(cabin(4, 0, 10) + BACK + FRONT + blocks(seats[i]));
            Check.due("soonest() of " + i, x.soonest(), soonest[i]);
        }
        // A walk more than needed makes 0 the later one.
        TwoTrolleys y = Check.flight(cabin(2, 60, 1) + BACK + FRONT + ";block 1 to 1 seats 9 likes a 1");
        Check.due("soonest()", y.soonest(), 1);
    }

    private static String blocks(int[] seats) {
        StringBuilder text = new StringBuilder();
        for (int i = 0; i < seats.length; i++) {
            text.append(seats[i] > 0 ? ";block " + (i + 1) + " to " + (i + 1) + " seats " + seats[i] + " likes a 1" : "");
        }
        return text.toString();
    }

    /** What one trolley has too much doesn't help the other: of each 0 at least. */
    private static void surplusIsNoHelp() {
        TwoTrolleys x = Check.flight(cabin(4, 0, 1) + FRONT + BACK + ";load tf a many 99;load tb b many 2;block 1 to 4 seats 2 likes a 1");
        int[] lacking = {6, 4, 2, 0, 0};
        for (int at = 0; at <= 4; at++) {
            Check.due("lacking(" + at + ")", x.lacking(at), lacking[at]);
        }
        Check.due("fairest()", x.fairest(), 3);
        x.finish();
        Check.due("by trays loaded, not left", x.lacking(0), 6);
        TwoTrolleys y = Check.flight(cabin(2, 0, 1) + FRONT + BACK + ";load tf a many 2;load tb c many 1"
                + ";named n row 1 eats b;named m row 1 eats b;named o row 2 eats b");
        Check.due("trays of any KIND", y.lacking(1), 0);
        Check.due("just enough for one alone", y.lacking(2), 1);
    }

    private static void fairestOfLikeOnes() {
        TwoTrolleys none = Check.flight(cabin(3, 0, 1) + FRONT + BACK + ";block 1 to 3 seats 1 likes a 1");
        Check.due("no trays at all", none.fairest(), 0);
        Check.due("lacking(0)", none.lacking(0), 3);
        TwoTrolleys all = Check.flight(cabin(3, 0, 1) + FRONT + BACK + ";block 1 to 3 seats 1 likes a 1;load tf a many 9;load tb a many 9");
        Check.due("enough on both", all.fairest(), 0);
        TwoTrolleys front = Check.flight(cabin(3, 0, 1) + FRONT + BACK + ";block 1 to 3 seats 1 likes a 1;load tf a many 3");
        Check.due("all on the front one", front.fairest(), 3);
        TwoTrolleys middle = Check.flight(cabin(3, 0, 1) + FRONT + BACK + ";block 1 to 3 seats 1 likes a 1;load tf a many 2;load tb a many 2");
        Check.due("1 and 2 alike", middle.fairest(), 1);
    }

    private static void oneTrolley() {
        String[] ends = {FRONT, BACK};
        for (String end : ends) {
            TwoTrolleys x = Check.flight(cabin(3, 5, 10) + end + ";block 1 to 1 seats 1 likes a 1;block 3 to 3 seats 2 likes a 1;load "
                    + (end.equals(FRONT) ? "tf" : "tb") + " a many 2");
            for (int at = 0; at <= 3; at++) {
                Check.due("meets(" + at + ")" + end, x.meets(at), 40);
                Check.due("lacking(" + at + ")" + end, x.lacking(at), 1);
            }
            Check.due(x, "meets(4)" + end, x.meets(4), -1, 2);
            Check.due(x, "lacking(4)" + end, x.lacking(4), -1, 2);
            Check.due("soonest()" + end, x.soonest(), 0);
            Check.due("fairest()" + end, x.fairest(), 0);
        }
    }

    /** Over, and one STEP ahead of it; the greatest ROW of the front one, rows if it served all. */
    private static void metAtTheEnd() {
        TwoTrolleys x = Check.flight(cabin(3, 0, 10) + BACK + FRONT + ";load tf a many 9;load tb a many 9;block 1 to 1 seats 9 likes a 1");
        for (int i = 0; i < 3; i++) {
            Check.due(x, "met() ahead of STEP " + i, x.met(), -1, 5);
            x.step();
        }
        Check.due(x, "met()", x.met(), 1, 0);
        TwoTrolleys y = Check.flight(cabin(3, 0, 10) + BACK + FRONT);
        y.finish();
        Check.due(y, "all ROWS without seats are the front one's", y.met(), 3, 0);
        TwoTrolleys z = Check.flight(cabin(3, 0, 10) + FRONT);
        Check.due(z, "a front one alone", z.met(), -1, 5);
        z.finish();
        Check.due(z, "a front one alone, over", z.met(), 3, 0);
        z.start(0);
        Check.due(z, "from the beginning", z.met(), -1, 5);
    }

    /** Nobody ahead: one way, and none with more than 0. */
    private static void oddsOfNobody() {
        TwoTrolleys x = Check.flight(cabin(3, 0, 1) + FRONT + ";block 1 to 1 seats 9 likes a 9,b 9;block 3 to 3 seats 9 likes a 1");
        for (int kind = 0; kind < 3; kind++) {
            Check.due(x, "out(1, " + kind + ", 0)", x.out(1, kind, 0), 0, 0);
            Check.due(x, "out(1, " + kind + ", 99)", x.out(1, kind, 99), 0, 0);
            Check.due(x, "enough(1, " + kind + ", 0)", x.enough(1, kind, 0), 0, 0);
            Check.due(x, "enough(1, " + kind + ", 99)", x.enough(1, kind, 99), 0, 0);
        }
        Check.due(x, "ways(1)", x.ways(1), 1, 0);
        Check.due(x, "ways(2)", x.ways(2), 198359290368L, 0);
        Check.due(x, "ways(3), ROW 2 has nobody", x.ways(3), 198359290368L, 0);
        Check.due(x, "out(2, 0, 8)", x.out(2, 0, 8), 387420489, 0);
        Check.due(x, "out(2, 2, 0)", x.out(2, 2, 0), 0, 0);
    }

    /** Ten ahead are told, eleven not, whichever ROWS they sit in. */
    private static void tenAhead() {
        int[][] cabins = {{9, 1, 1, 0}, {1, 9, 1, 0}, {5, 5, 0, 1}, {4, 3, 3, 1}, {2, 8, 1, 9}, {9, 2, 1, 1}, {9, 9, 9, 9}};
        for (int[] seats : cabins) {
            TwoTrolleys x = Check.flight(cabin(5, 0, 1) + FRONT + blocks(seats));
            int ahead = 0;
            for (int row = 1; row <= 5; row++) {
                String name = "(" + row + ") with " + ahead + " ahead";
                boolean told = ahead <= 10;
                Check.due(x, "ways" + name, x.ways(row), told ? 1 : -1, told ? 0 : 3);
                Check.due(x, "out 9" + name, x.out(row, 0, 9), told ? ahead / 10 : -1, told ? 0 : 3);
                Check.due(x, "out 10" + name, x.out(row, 0, 10), told ? 0 : -1, told ? 0 : 3);
                Check.due(x, "enough" + name, x.enough(row, 0, 0), told ? ahead : -1, told ? 0 : 3);
                Check.due(x, "enough of what nobody likes" + name, x.enough(row, 1, 0), told ? 0 : -1, told ? 0 : 3);
                ahead += row <= 4 ? seats[row - 1] : 0;
            }
        }
    }

    /** Named ones are not among them: seats less the named ones, none if these are more. */
    private static void namedAheadAreNone() {
        StringBuilder text = new StringBuilder(cabin(3, 0, 1) + FRONT + ";block 1 to 1 seats 5 likes a 1,b 1;block 2 to 2 seats 9 likes a 1");
        for (int named = 0; named <= 6; named++) {
            TwoTrolleys x = Check.flight(text.toString());
            int others = Math.max(0, 5 - named);
            Check.due(x, "ways(2) with " + named, x.ways(2), 1L << others, 0);
            Check.due(x, "out(2, 0, 0) with " + named, x.out(2, 0, 0), (1L << others) - 1, 0);
            boolean told = others + 9 <= 10;
            Check.due(x, "ways(3) with " + named, x.ways(3), told ? 1L << others : -1, told ? 0 : 3);
            text.append(";named n").append((char) ('a' + named)).append(" row 1 eats a").append(named % 2 == 0 ? " child" : "");
        }
    }

    /** The ROW itself and those behind it are not ahead of it. */
    private static void rowsAheadAlone() {
        TwoTrolleys x = Check.flight(cabin(4, 0, 1) + BACK + ";block 1 to 4 seats 1 likes b 3,a 1");
        long ways = 1;
        for (int row = 1; row <= 4; row++) {
            Check.due(x, "ways(" + row + ")", x.ways(row), ways, 0);
            Check.due(x, "all like a", x.out(row, 0, row - 2 < 0 ? 0 : row - 2), row == 1 ? 0 : 1, 0);
            Check.due(x, "more than all", x.out(row, 0, row - 1), 0, 0);
            ways *= 4;
        }
        x.finish();
        Check.due("a RUN is of no matter", x.ways(4), 64);
    }

    /** Each ROW by its own weights; the least and the greatest sum there can be. */
    private static void weights() {
        TwoTrolleys x = Check.flight(cabin(4, 0, 1) + FRONT + ";block 1 to 1 seats 1 likes a 2,b 3;block 2 to 2 seats 1 likes b 5,c 7;block 3 to 3 seats 1 likes c 1,a 9");
        Check.due("ways(4)", x.ways(4), 5 * 12 * 10);
        Check.due("out(4, 0, 0)", x.out(4, 0, 0), 600 - 3 * 12 * 1);
        Check.due("out(4, 0, 1)", x.out(4, 0, 1), 2 * 12 * 9);
        Check.due("out(4, 0, 2)", x.out(4, 0, 2), 0);
        Check.due("out(4, 1, 1)", x.out(4, 1, 1), 3 * 5 * 10);
        Check.due("out(4, 2, 0)", x.out(4, 2, 0), 600 - 5 * 5 * 9);
        TwoTrolleys y = Check.flight(cabin(3, 0, 1) + ";kind d shape 1 hot 1" + FRONT + ";block 1 to 1 seats 9 likes d 9,c 9,b 9,a 9;block 2 to 2 seats 1 likes d 9,c 9,b 9,a 9");
        Check.due("36 to the tenth", y.ways(3), 3656158440062976L);
        Check.due("9 to the tenth", y.out(3, 0, 9), 3486784401L);
        Check.due("nine or ten", y.out(3, 0, 8), 31L * 3486784401L);
        Check.due("one at least", y.out(3, 0, 0), 3656158440062976L - 205891132094649L);
        Check.due("enough(3, 0, 94)", y.enough(3, 0, 94), 1);
        Check.due("enough(3, 0, 95)", y.enough(3, 0, 95), 0);
    }

    /** p at most: at the very hundredth enough, one hundredth less not. */
    private static void hundredths() {
        // One ahead, who likes a by 1 of 2, 1 of 4, 1 of 5, 1 of 10, 9 of 10: so many hundredths.
        int[][] weights = {{1, 1, 50}, {1, 3, 25}, {1, 4, 20}, {1, 9, 10}, {9, 1, 90}, {3, 1, 75}, {4, 1, 80}};
        for (int[] w : weights) {
            TwoTrolleys x = Check.flight(cabin(2, 0, 1) + FRONT + ";block 1 to 1 seats 1 likes a " + w[0] + ",b " + w[1]);
            Check.due(x, "at " + w[2], x.enough(2, 0, w[2]), 0, 0);
            Check.due(x, "below " + w[2], x.enough(2, 0, w[2] - 1), 1, 0);
            Check.due(x, "above " + w[2], x.enough(2, 0, w[2] + 1), 0, 0);
            Check.due(x, "at 0", x.enough(2, 0, 0), 1, 0);
            Check.due(x, "at 99", x.enough(2, 0, 99), 0, 0);
        }
        TwoTrolleys sure = Check.flight(cabin(2, 0, 1) + FRONT + ";block 1 to 1 seats 3 likes a 1");
        Check.due(sure, "all hundredths are more than 99", sure.enough(2, 0, 99), 3, 0);
        Check.due(sure, "at 0", sure.enough(2, 0, 0), 3, 0);
        Check.due(sure, "p 100", sure.enough(2, 0, 100), -1, 2);
        Check.due(sure, "p -1", sure.enough(2, 0, -1), -1, 2);
        TwoTrolleys two = Check.flight(cabin(2, 0, 1) + FRONT + ";block 1 to 1 seats 2 likes a 1,b 1");
        int[] enough = {2, 24, 1, 25, 1, 74, 0, 75};
        for (int i = 0; i < enough.length; i += 2) {
            Check.due(two, "two by p " + enough[i + 1], two.enough(2, 0, enough[i + 1]), enough[i], 0);
        }
    }

    /** all in the cabin times took by of, upwards. */
    private static void loadUpwards() {
        int[][] flights = {{0, 1, 0}, {0, 999, 0}, {1, 999, 1}, {1, 11, 1}, {1, 10, 1}, {1, 9, 2}, {1, 5, 2}, {1, 4, 3}, {2, 5, 4},
            {3, 10, 3}, {3, 11, 3}, {3, 9, 4}, {998, 999, 10}, {9, 10, 9}, {8, 9, 9}, {10, 11, 10}, {999, 999, 10}, {1, 1, 10}};
        for (int[] f : flights) {
            TwoTrolleys x = Check.flight(cabin(3, 0, 1) + FRONT + ";block 1 to 1 seats 9 likes a 1;named n row 3 eats a;named o row 4 eats a"
                    + ";took b " + f[0] + " of " + f[1]);
            Check.due(x, "took " + f[0] + " of " + f[1], x.load(1, false), f[2], 0);
            Check.due(x, "took " + f[0] + " of " + f[1] + ", most", x.load(1, true), f[2], 0);
            Check.due(x, "spare", x.spare(1), -f[2], 0);
        }
        TwoTrolleys none = Check.flight(cabin(3, 0, 1) + FRONT + ";took b 1 of 2");
        Check.due(none, "nobody in the cabin", none.load(1, true), 0, 0);
        TwoTrolleys full = Check.flight(cabin(40, 0, 1) + FRONT + ";block 1 to 40 seats 9 likes a 1;took b 999 of 999;took b 998 of 999");
        Check.due(full, "a full cabin", full.load(1, true), 360, 0);
        Check.due(full, "a full cabin but one", full.load(1, false), 360, 0);
    }

    private static void leastAndGreatest() {
        String head = cabin(3, 0, 1) + FRONT + ";block 1 to 1 seats 9 likes a 1";
        String[] orders = {";took a 1 of 9;took a 5 of 9;took a 3 of 9", ";took a 5 of 9;took a 3 of 9;took a 1 of 9", ";took a 3 of 9;took a 1 of 9;took a 5 of 9"};
        for (String order : orders) {
            TwoTrolleys x = Check.flight(head + order + ";took b 9 of 9;took c 0 of 9");
            Check.due(x, "least", x.load(0, false), 1, 0);
            Check.due(x, "greatest", x.load(0, true), 5, 0);
            Check.due(x, "another KIND", x.load(1, false), 9, 0);
            Check.due(x, "taken by none", x.load(2, true), 0, 0);
        }
        TwoTrolleys y = Check.flight(head);
        Check.due(y, "no former flight", y.load(0, true), -1, 6);
        Check.due(y, "no former flight", y.load(0, false), -1, 6);
        Check.due(y, "no former flight", y.spare(0), -1000, 6);
    }

    /** On both trolleys, less the greatest; -1 is a true answer. */
    private static void spare() {
        String head = cabin(3, 0, 1) + FRONT + BACK + ";block 1 to 1 seats 9 likes a 1;took a 1 of 9;took a 5 of 9";
        String[] loads = {"", ";load tf a many 4", ";load tb a many 2;load tf a many 3", ";load tb a many 6", ";load tb b many 6"};
        int[] spare = {-5, -1, 0, 1, -5};
        for (int i = 0; i < loads.length; i++) {
            TwoTrolleys x = Check.flight(head + loads[i]);
            Check.due(x, "spare(0) with" + loads[i], x.spare(0), spare[i], 0);
            x.finish();
            Check.due(x, "spare(0) behind a RUN", x.spare(0), spare[i], 0);
        }
    }

    /** Bits 0 to 5; on any trolley is enough, one tray is. */
    private static void unloaded() {
        StringBuilder text = new StringBuilder(cabin(3, 0, 1) + FRONT + BACK);
        String[] eats = {"a", "b", "c", "c", "b", "a"};
        for (int i = 0; i < 6; i++) {
            text.append(";named n").append((char) ('a' + i)).append(" row ").append(i % 3 + 1).append(" eats ").append(eats[i]);
        }
        Check.due("nothing loaded", Check.flight(text.toString()).unloaded(), 63);
        Check.due("a on the back one", Check.flight(text + ";load tb a many 1").unloaded(), 30);
        Check.due("b on the front one", Check.flight(text + ";load tf b many 1").unloaded(), 45);
        Check.due("c on both", Check.flight(text + ";load tf c many 1;load tb c many 9").unloaded(), 51);
        TwoTrolleys all = Check.flight(text + ";load tf a many 1;load tb b many 1;load tf c many 1");
        Check.due("all", all.unloaded(), 0);
        all.finish();
        Check.due("all of them gone, but loaded", all.unloaded(), 0);
        TwoTrolleys nobody = Check.flight(cabin(3, 0, 1) + FRONT);
        Check.due(nobody, "nobody is named", nobody.unloaded(), 0, 0);
    }
}
