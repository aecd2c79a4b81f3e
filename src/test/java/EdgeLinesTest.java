/** Bounds of the LINES of a text: each TOKEN of each LINE, each WHOLE's least and most with what they do, room, FAULTS. */
public final class EdgeLinesTest {
    private static final String CABIN = "cabin rows 2 walk 0 serve 1;heat least 0 cools 0;";
    private static final String NAMES = "kind kk shape 1 hot 1;trolley tt back drawers 1 holds 8;";
    private static final String[] RESERVED = {"cabin", "heat", "kind", "batch", "took", "trolley", "load", "block",
        "named", "belts", "gap", "past", "drink", "child"};

    /** A LINE, TOKEN by TOKEN: = a WORD, # a WHOLE, + a new NAME, K and T one that is told, E an END. */
    private static final String[] LINES = {"=cabin =rows #2 =walk #0 =serve #1", "=heat =least #0 =cools #0",
        "=kind +a =shape #1 =hot #1", "=batch Kkk =at #1", "=took Kkk #1 =of #1",
        "=trolley +a Efront =drawers #1 =holds #8", "=load Ttt Kkk =many #1",
        "=block #1 =to #1 =seats #1 =likes Kkk #1", "=named +a =row #1 =eats Kkk", "=named +a =row #1 =eats Kkk =child",
        "=belts #1 =to #2", "=gap #1", "=past =at #1 =from #1 =to #1", "=drink +a =price #1"};

    public static void main(String[] args) {
        for (String line : LINES) {
            eachToken(line);
            behind(line);
            leftOut(line);
            doubled(line);
        }
        cabinBounds();
        kindBounds();
        batchAndTookBounds();
        trolleyBounds();
        loadBounds();
        blockBounds();
        namedBounds();
        beltsBounds();
        gapAndPastBounds();
        drinkBounds();
        fullOfAll();
        oneMore();
        latestCounts();
        beyondTheCabin();
        lacks();
        leastOfOnePlace();
        noTrace();
        Check.end("EdgeLinesTest");
    }

    private static String head(String line) {
        return line.startsWith("=cabin") || line.startsWith("=heat") ? NAMES : CABIN + NAMES;
    }

    /** Cut ahead of each TOKEN, and each TOKEN in turn replaced by such as can't stand there. */
    private static void eachToken(String line) {
        String[] tokens = line.split(" ");
        StringBuilder text = new StringBuilder(head(line));
        for (int i = 0; i < tokens.length; i++) {
            String told = text.toString();
            char sort = tokens[i].charAt(0);
            if (i > 0 && !tokens[i].equals("=child")) {
                Check.fault(told, 1, told.length());
                Check.fault(told + ";gap 1", 1, told.length());
            }
            String[] never = {",", "?", "abcdefghi", "1000", "A"};
            for (String other : never) {
                Check.fault(told + other, 1, told.length());
            }
            if (sort != '#') {
                Check.fault(told + "7", 1, told.length());
            }
            words(told, tokens[i], i);
            text.append(tokens[i].substring(1)).append(' ');
        }
    }

    private static void words(String told, String token, int i) {
        int place = told.length();
        char sort = token.charAt(0);
        for (String word : RESERVED) {
            if (i > 0 && !token.equals("=" + word)) {
                Check.fault(told + word, 1, place);
            }
        }
        Check.fault(told + "child child", 1, token.equals("=child") ? place + 6 : place);
        boolean name = sort == 'K' || sort == 'T';
        if (sort != '+') {
            Check.fault(told + "zz", name ? 2 : 1, place);
        }
        if (sort != 'K') {
            Check.fault(told + "kk", sort == '+' ? 3 : name ? 2 : 1, place);
        }
        if (sort != 'T') {
            Check.fault(told + "tt", sort == '+' ? 3 : name ? 2 : 1, place);
        }
        if (sort == 'E') {
            Check.fault(told + "back", 3, place);
        }
        if (sort == '=') {
            String word = token.substring(1);
            Check.fault(told + word + "x", 1, place);
            Check.fault(told + word.substring(1), 1, place);
            Check.fault(told + word.substring(0, word.length() - 1), 1, place);
        }
    }

    /** Behind a whole LINE comes ; or the end (behind a block's weight , too; behind an eater child). */
    private static void behind(String line) {
        StringBuilder text = new StringBuilder(head(line));
        for (String token : line.split(" ")) {
            text.append(token.substring(1)).append(' ');
        }
        String told = text.toString().trim();
        String[] others = {"zz", "7", "kind", "kk", "tt", "front", "?", "child child"};
        for (String other : others) {
            boolean child = other.startsWith("child") && line.startsWith("=named") && !line.endsWith("child");
            Check.fault(told + " " + other, 1, told.length() + (child ? 7 : 1));
        }
        boolean block = line.startsWith("=block");
        Check.fault(told + ",", 1, told.length() + (block ? 1 : 0));
        Check.fault(told + ";", 1, told.length() + 1);
        Check.fault(told + ";gap 0", 4, told.length() + 5);
    }

    /** Each TOKEN left out in turn: the next one can't stand in its place, or isn't told. */
    private static void leftOut(String line) {
        String[] tokens = line.split(" ");
        for (int out = 0; out < tokens.length; out++) {
            if (tokens[out].equals("=child")) {
                continue;
            }
            StringBuilder text = new StringBuilder(head(line));
            int place = 0;
            for (int i = 0; i < tokens.length; i++) {
                place = i == out ? text.length() : place;
                text.append(i == out ? "" : tokens[i].substring(1) + " ");
            }
            char sort = tokens[out].charAt(0);
            char next = out + 1 < tokens.length ? tokens[out + 1].charAt(0) : ';';
            boolean told = sort == '+';
            if (told) {
                // The next WORD is taken for the NAME, so that the one behind it is out of place.
                place += tokens[out + 1].length();
            }
            boolean untold = (sort == 'K' || sort == 'T') && (next == '=' && !tokens[out + 1].equals("=child") || next == 'K');
            Check.fault(text + ";gap 1", untold ? 2 : 1, place);
        }
    }

    /** Each TOKEN told twice: the second one is out of place, or of another sort. */
    private static void doubled(String line) {
        String[] tokens = line.split(" ");
        for (int twice = 0; twice < tokens.length; twice++) {
            StringBuilder text = new StringBuilder(head(line));
            int place = 0;
            for (int i = 0; i < tokens.length; i++) {
                text.append(tokens[i].substring(1)).append(' ');
                if (i == twice) {
                    place = text.length();
                    text.append(tokens[i].substring(1)).append(' ');
                }
            }
            // A WORD of the LINE where a KIND must stand is a NAME that isn't told; its first WORD is none.
            boolean untold = twice > 0 && twice + 1 < tokens.length && tokens[twice + 1].charAt(0) == 'K';
            Check.fault(text.toString(), untold ? 2 : 1, place);
        }
    }

    /** A WHOLE of this LINE out of bounds by one, whatever comes behind it. */
    private static void outside(String head, int... wholes) {
        for (int whole : wholes) {
            Check.fault(head + whole, 4, head.length());
            Check.fault(head + whole + " ?", 4, head.length());
            Check.fault(head + whole + " x 1;cabin", 4, head.length());
        }
    }

    private static void cabinBounds() {
        outside("cabin rows ", 0, 1, 41, 42, 999);
        outside("cabin rows 2 walk ", 61, 62, 999);
        outside("cabin rows 2 walk 0 serve ", 0, 61, 999);
        outside("heat least ", 91, 92, 999);
        outside("heat least 0 cools ", 51, 52, 999);
        String rest = ";kind k shape 1 hot 90;trolley t front drawers 1 holds 8;load t k many 9;block 1 to 2 seats 1 likes k 1";
        int[][] cabins = {{2, 0, 1}, {40, 60, 60}, {39, 59, 59}, {3, 1, 2}};
        for (int[] c : cabins) {
            TwoTrolleys x = Check.flight("cabin rows " + c[0] + " walk " + c[1] + " serve " + c[2] + ";heat least 0 cools 0" + rest);
            Check.due("size(0)", x.size(0), c[0]);
            Check.due("sits of the last", x.sits(c[0]), c[0] < 3 ? 1 : 0);
            Check.due("sits behind the last", x.sits(c[0] + 1), -1);
            x.step();
            Check.due("serve", x.seconds(0), c[2]);
            x.step();
            Check.due("walk", x.served(2, 1), c[1] + c[2]);
            Check.due("finish()", x.finish(), c[0] - 2);
            Check.due("all walks", x.seconds(0), 2 * c[2] + (c[0] - 1) * c[1]);
        }
        int[][] heats = {{0, 0}, {90, 50}, {0, 50}, {90, 0}, {89, 49}};
        for (int[] h : heats) {
            TwoTrolleys x = Check.flight("cabin rows 2 walk 0 serve 1;heat least " + h[0] + " cools " + h[1] + rest);
            Check.due("cools", x.heat(0, 10), 90 - h[1]);
            Check.due("least", x.cold(0, 0), h[1] == 0 ? -2 : first(90, h[0], h[1]));
        }
    }

    /** The first minute in which so hot a tray is below least. */
    private static int first(int hot, int least, int cools) {
        int minute = 0;
        while (hot - cools * minute / 10 >= least) {
            minute++;
        }
        return minute;
    }

    private static void kindBounds() {
        outside("kind k shape ", 0, 9, 10, 999);
        outside("kind k shape 1 hot ", 100, 101, 999);
        TwoTrolleys x = Check.flight("cabin rows 2 walk 0 serve 1;heat least 0 cools 0;kind one shape 1 hot 0;"
                + "kind eight shape 8 hot 99;kind seven shape 7 hot 98;trolley t front drawers 1 holds 8;"
                + "load t one many 1;load t eight many 1;block 1 to 1 seats 1 likes one 1;block 2 to 2 seats 1 likes eight 1");
        Check.due("hot 0", x.heat(0, 0), 0);
        Check.due("hot 99", x.heat(1, 0), 99);
        Check.due("hot 98", x.heat(2, 999), 98);
        Check.due("eight of shape 1 in a drawer of 8", fewest(8, 1, 8), 1);
        Check.due("nine of shape 1 in drawers of 8", fewest(8, 1, 9), 2);
        Check.due("one of shape 8 in a drawer of 8", fewest(8, 8, 1), 1);
        Check.due("two of shape 8 in drawers of 15", fewest(15, 8, 2), 2);
        Check.due("two of shape 8 in a drawer of 16", fewest(16, 8, 2), 1);
        x.step();
        x.clear(0);
        Check.due("room behind shape 1", x.room(0, 0), 7);
        x.step();
        Check.due("shape 8 won't go in then", x.clear(0), 1);
    }

    private static int fewest(int holds, int shape, int trays) {
        TwoTrolleys x = Check.flight(CABIN + "kind k shape " + shape + " hot 1;trolley t front drawers 14 holds " + holds);
        return x.fewest(0, trays, 0, 0, 0);
    }

    private static void batchAndTookBounds() {
        outside(NAMES + "batch kk at ", 301, 302, 999);
        outside(NAMES + "took kk 1 of ", 0);
        outside(NAMES + "took kk 0 of ", 0);
        outside(NAMES + "took kk 5 of ", 0, 1, 3, 4);
        outside(NAMES + "took kk 999 of ", 0, 500, 997, 998);
        TwoTrolleys x = Check.flight("cabin rows 2 walk 0 serve 1;heat least 0 cools 10;kind kk shape 1 hot 99;"
                + "trolley t front drawers 1 holds 8;batch kk at 300;batch kk at 0;batch kk at 299;block 1 to 1 seats 5 likes kk 1;"
                + "took kk 0 of 1;took kk 999 of 999");
        Check.due("batch at 0", x.heat(0, 298), 99 - 298);
        Check.due("batch at 299", x.heat(0, 299), 99);
        Check.due("batch at 300", x.heat(0, 301), 98);
        Check.due("took 0 of 1", x.load(0, false), 0);
        Check.due("took 999 of 999", x.load(0, true), 5);
        TwoTrolleys y = Check.flight(CABIN + NAMES + "block 1 to 1 seats 5 likes kk 1;took kk 1 of 999;took kk 1 of 1");
        Check.due("took 1 of 999", y.load(0, false), 1);
        Check.due("took 1 of 1", y.load(0, true), 5);
        TwoTrolleys z = Check.flight(CABIN + NAMES + "block 1 to 1 seats 5 likes kk 1;took kk 998 of 999;took kk 4 of 5");
        Check.due("took 998 of 999", z.load(0, true), 5);
        Check.due("took 4 of 5", z.load(0, false), 4);
    }

    private static void trolleyBounds() {
        outside("trolley t front drawers ", 0, 15, 16, 999);
        outside("trolley t back drawers 1 holds ", 0, 7, 41, 42, 999);
        int[][] trolleys = {{1, 8}, {14, 40}, {13, 39}, {2, 9}};
        for (int[] t : trolleys) {
            TwoTrolleys x = Check.flight(CABIN + "kind k shape 1 hot 1;trolley t back drawers " + t[0] + " holds " + t[1]);
            Check.due("drawers", x.room(0, t[0] - 1), t[1]);
            Check.due("one more", x.room(0, t[0]), -1);
        }
        Check.fault("trolley t front drawers 1 holds 8;trolley u front drawers 1 holds 8", 3, 44);
        Check.fault("trolley t back drawers 1 holds 8;trolley u back drawers 1 holds 8", 3, 43);
        Check.due("front and back", Check.flight(CABIN + NAMES + "trolley u front drawers 1 holds 8").size(2), 2);
    }

    private static void loadBounds() {
        outside(NAMES + "load tt kk many ", 0, 100, 101, 999);
        TwoTrolleys x = Check.flight(CABIN + NAMES + "load tt kk many 1");
        Check.due("many 1", x.loaded(0, 0), 1);
        TwoTrolleys y = Check.flight(CABIN + NAMES + "load tt kk many 99");
        Check.due("many 99", y.loaded(0, 0), 99);
        StringBuilder text = new StringBuilder(CABIN + NAMES + "load tt kk many 99");
        for (int i = 2; i <= 8; i++) {
            text.append(";load tt kk many 99");
            Check.due(i + " LINES of 99", Check.flight(text.toString()).loaded(0, 0), 99 * i);
        }
    }

    private static void blockBounds() {
        outside(NAMES + "block ", 0, 41, 42, 999);
        outside(NAMES + "block 1 to ", 0, 41, 999);
        outside(NAMES + "block 40 to ", 0, 1, 38, 39, 41);
        outside(NAMES + "block 2 to ", 1);
        outside(NAMES + "block 1 to 1 seats ", 0, 10, 11, 999);
        outside(NAMES + "block 1 to 1 seats 1 likes kk ", 0, 10, 11, 999);
        TwoTrolleys x = Check.flight("cabin rows 40 walk 0 serve 1;heat least 0 cools 0;" + NAMES
                + "block 1 to 1 seats 1 likes kk 1;block 40 to 40 seats 9 likes kk 9;block 7 to 8 seats 8 likes kk 8");
        int[] rows = {1, 2, 6, 7, 8, 9, 39, 40};
        int[] seats = {1, 0, 0, 8, 8, 0, 0, 9};
        for (int i = 0; i < rows.length; i++) {
            Check.due("sits(" + rows[i] + ")", x.sits(rows[i]), seats[i]);
            Check.due("likes(" + rows[i] + ", 0)", x.likes(rows[i], 0), seats[i]);
        }
        Check.due("all()", x.all(), 26);
        TwoTrolleys y = Check.flight("cabin rows 40 walk 0 serve 1;heat least 0 cools 0;" + NAMES + "block 1 to 40 seats 9 likes kk 9");
        Check.due("all() of a full cabin", y.all(), 360);
        likedKinds();
    }

    /** From one KIND up to four unlike ones, in any order; a fifth can't be one that isn't there yet. */
    private static void likedKinds() {
        String head = CABIN + NAMES + "kind k shape 1 hot 1;kind l shape 1 hot 1;kind m shape 1 hot 1;block 1 to 1 seats 1 likes ";
        String[] orders = {"kk 1", "m 1,kk 2", "l 9,m 8,k 7", "m 4,l 3,k 2,kk 1"};
        int[][] weights = {{1, 0, 0, 0}, {2, 0, 0, 1}, {0, 7, 9, 8}, {1, 2, 3, 4}};
        for (int i = 0; i < orders.length; i++) {
            TwoTrolleys x = Check.flight(head + orders[i]);
            for (int kind = 0; kind < 4; kind++) {
                Check.due("likes(1, " + kind + ") of " + orders[i], x.likes(1, kind), weights[i][kind]);
            }
        }
        String full = head + "m 4,l 3,k 2,kk 1,";
        String[] again = {"m", "l", "k", "kk"};
        for (String kind : again) {
            Check.fault(full + kind + " 1", 3, full.length());
            Check.fault(full + kind + " 10", 3, full.length());
            Check.fault(head + kind + " 1," + kind + " 1", 3, head.length() + kind.length() + 3);
        }
        Check.fault(full + "tt 1", 2, full.length());
        Check.fault(full + "n 1", 2, full.length());
        Check.fault(full, 1, full.length());
    }

    private static void namedBounds() {
        outside(NAMES + "named n row ", 0, 41, 42, 999);
        TwoTrolleys x = Check.flight("cabin rows 40 walk 0 serve 1;heat least 0 cools 0;" + NAMES
                + "named a row 1 eats kk;named n row 40 eats kk child");
        Check.due("row 1", x.sits(1), 1);
        Check.due("row 40", x.sits(40), 1);
        Check.due("row 2", x.sits(2), 0);
        Check.due("row 39", x.sits(39), 0);
    }

    private static void beltsBounds() {
        outside("belts ", 301, 302, 400, 999);
        outside("belts 0 to ", 0, 401, 402, 999);
        outside("belts 300 to ", 0, 299, 300, 401);
        outside("belts 7 to ", 6, 7);
        int[][] belts = {{0, 1}, {0, 400}, {0, 399}, {300, 301}, {300, 400}};
        for (int[] b : belts) {
            TwoTrolleys x = Check.flight(CABIN + NAMES + "belts " + b[0] + " to " + b[1]);
            x.finish();
            Check.due("belts " + b[0] + " to " + b[1], x.served(2, 1), b[0] == 0 ? 60 * b[1] : 0);
        }
    }

    private static void gapAndPastBounds() {
        outside("gap ", 0, 41, 42, 999);
        outside("past at ", 301, 302, 999);
        outside("past at 0 from ", 0, 41, 42, 999);
        outside("past at 0 from 1 to ", 0, 41, 42, 999);
        String head = "cabin rows 40 walk 60 serve 60;heat least 0 cools 0;" + NAMES
                + "load tt kk many 99;load tt kk many 99;load tt kk many 99;load tt kk many 99;block 1 to 40 seats 9 likes kk 1;";
        // The back one is on ROW 40 up to 600, on ROW 39 up to 1,200, on ROW 1 from 23,400 to 23,940.
        TwoTrolleys x = Check.flight(head + "past at 0 from 40 to 40;past at 10 from 1 to 39;past at 300 from 11 to 11;past at 300 from 10 to 10");
        x.finish();
        Check.due("past at 0", x.waits(0), 600);
        Check.due("past at 10", x.waits(1), 23940 - 600);
        Check.due("past at 300, up to then on ROW 11", x.waits(2), 0);
        Check.due("past at 300, from then on ROW 10", x.waits(3), 600);
        TwoTrolleys y = Check.flight(head + "past at 0 from 1 to 40;gap 40;gap 38;gap 1");
        y.finish();
        Check.due("gap 40", y.waits(0), 0);
        TwoTrolleys z = Check.flight(head + "past at 10 from 1 to 40;gap 40;gap 38;gap 1");
        z.finish();
        Check.due("gap 38", z.waits(0), 600);
        TwoTrolleys w = Check.flight(head + "past at 300 from 1 to 10;gap 1");
        w.finish();
        Check.due("gap 1", w.waits(0), 23400 - 18000);
    }

    private static void drinkBounds() {
        outside("drink d price ", 0, 100, 101, 999);
        TwoTrolleys x = Check.flight(CABIN + NAMES + "drink d price 1;drink e price 99;drink f price 98");
        Check.due("price 1", x.sell(0, 1), 0);
        Check.due("price 99", x.sell(1, 100), 1);
        Check.due("price 98", x.sell(2, 50), -1);
    }

    /** Each sort up to its room in one FLIGHT, and the last LINE of each does what it says. */
    private static void fullOfAll() {
        StringBuilder text = new StringBuilder("cabin rows 9 walk 0 serve 1;heat least 50 cools 50;"
                + "trolley t back drawers 3 holds 9;trolley u front drawers 4 holds 8");
        for (int i = 1; i <= 4; i++) {
            text.append(";kind ").append((char) ('a' + i - 1)).append(" shape 1 hot 5").append(i - 1);
            text.append(";drink ").append((char) ('e' + i)).append(" price ").append(i);
            text.append(";past at 3from ").append(i).append(" to 9");
        }
        for (int i = 1; i <= 8; i++) {
            text.append(i % 2 == 0 ? ";load u d many " : ";load t d many ").append(i);
        }
        for (int i = 1; i <= 5; i++) {
            text.append(";block ").append(i).append("to ").append(i).append("seats ").append(i).append("likes d 1");
        }
        for (int i = 1; i <= 6; i++) {
            text.append(";named ").append((char) ('k' + i)).append(" row ").append(i).append(" eats d");
            text.append(";batch d at ").append(i * 10).append(";took d 1of ").append(7 - i);
        }
        text.append(";belts 0to 1;belts 1to 2;belts 2to 3;gap 1;gap 2;gap 3");
        TwoTrolleys x = new TwoTrolleys();
        // No blank is needed next to a WHOLE; with them all it would be more than 900 bytes.
        String dense = text.toString().replaceAll(" (?=[0-9])", "").replaceAll("(?<=[0-9]) ", "");
        Check.due("as many as there is room for", Check.tell(x, dense), 2);
        int[] sizes = {9, 4, 2, 8, 5, 6, 6, 3, 3, 4, 6, 4};
        for (int what = 0; what < sizes.length; what++) {
            Check.due("size(" + what + ")", x.size(what), sizes[what]);
        }
        Check.due("the seventh load", x.loaded(0, 3), 16);
        Check.due("the eighth load", x.loaded(1, 3), 20);
        Check.due("the fifth block", x.sits(5), 5);
        Check.due("the sixth named one", x.sits(6), 1);
        Check.due("the sixth batch", x.heat(3, 60), 53);
        Check.due("the sixth former flight", x.load(3, true), 16);
        Check.due("the fourth KIND", x.heat(3, 0), 53);
        Check.due("the fourth drink", x.sell(3, 5), -1);
        Check.due("the fourth drink again", x.sell(3, 2), -1);
        Check.due("its price", x.trouble(), 5);
        x.finish();
        Check.due("the third belts", x.served(1, 1), 180);
        Check.due("on ROW 3", x.on(1, 183), 3);
        Check.due("the fourth past, by ROWS 6, 5 and 4", x.waits(3), 10);
        Check.due("the sixth named one got it", x.got(5), 1);
    }

    /** A LINE more than there is room for: at its first WORD, wherever it stands and however it goes on. */
    private static void oneMore() {
        String[] sorts = {"kind %s shape 1 hot 1", "batch kk at 1", "took kk 1 of 1", "load tt kk many 1",
            "block 1 to 1 seats 1 likes kk 1", "named %s row 1 eats kk", "belts 1 to 2", "gap 1",
            "past at 1 from 1 to 1", "drink %s price 1"};
        int[] rooms = {3, 6, 6, 8, 5, 6, 3, 3, 4, 4};
        for (int i = 0; i < sorts.length; i++) {
            StringBuilder text = new StringBuilder(CABIN + NAMES + "drink other price 1");
            int room = sorts[i].startsWith("drink") ? rooms[i] - 1 : rooms[i];
            for (int j = 0; j < room; j++) {
                text.append(';').append(sorts[i].replace("%s", "n" + (char) ('a' + j)));
            }
            Check.fine(text.toString());
            String word = sorts[i].substring(0, sorts[i].indexOf(' '));
            String[] rests = {"", " ?", " 1000", " zz", " kk", sorts[i].replace("%s", "nz").substring(word.length())};
            for (String rest : rests) {
                Check.fault(text + ";" + word + rest, 5, text.length() + 1);
                Check.fault(text + " ; " + word + rest, 5, text.length() + 3);
            }
            Check.fault(text + ";" + word + "x", 1, text.length() + 1);
        }
        String both = CABIN + NAMES + "trolley u front drawers 1 holds 8;";
        Check.fault(both + "trolley v front", 5, both.length());
        Check.fault(both + "trolley tt", 5, both.length());
        Check.fault(both + "trolley", 5, both.length());
    }

    /** Of a ROW told twice the latest LINE counts, with all it tells; a later one that ends ahead of it doesn't. */
    private static void latestCounts() {
        TwoTrolleys x = Check.flight("cabin rows 6 walk 0 serve 1;heat least 0 cools 0;" + NAMES + "kind k shape 1 hot 1;"
                + "block 1 to 6 seats 9 likes kk 9,k 8;block 3 to 4 seats 2 likes k 1;block 4 to 5 seats 1 likes kk 3");
        int[][] want = {{9, 9, 8}, {9, 9, 8}, {2, 0, 1}, {1, 3, 0}, {1, 3, 0}, {9, 9, 8}};
        for (int row = 1; row <= 6; row++) {
            Check.due("sits(" + row + ")", x.sits(row), want[row - 1][0]);
            Check.due("likes(" + row + ", 0)", x.likes(row, 0), want[row - 1][1]);
            Check.due("likes(" + row + ", 1)", x.likes(row, 1), want[row - 1][2]);
        }
        TwoTrolleys y = Check.flight("cabin rows 6 walk 0 serve 1;heat least 0 cools 0;" + NAMES
                + "block 3 to 3 seats 1 likes kk 1;block 1 to 6 seats 9 likes kk 9");
        Check.due("a wider block behind", y.sits(3), 9);
    }

    /** Blocks, gaps and named ones beyond the cabin are told, but are of no matter. */
    private static void beyondTheCabin() {
        TwoTrolleys x = Check.flight("cabin rows 4 walk 0 serve 1;heat least 0 cools 0;" + NAMES + "load tt kk many 9;"
                + "block 4 to 5 seats 3 likes kk 1;block 5 to 40 seats 9 likes kk 1;gap 5;gap 40;named n row 5 eats kk;"
                + "named m row 4 eats kk;named o row 40 eats kk;past at 0 from 5 to 40;past at 0 from 5 to 4");
        Check.due("sits(4)", x.sits(4), 3);
        Check.due("sits(5)", x.sits(5), -1);
        Check.due("likes(5, 0)", x.likes(5, 0), -1);
        Check.due("all()", x.all(), 3);
        Check.due("blocks told", x.size(4), 2);
        Check.due("named ones told", x.size(5), 3);
        Check.due("gaps told", x.size(8), 2);
        Check.due("finish()", x.finish(), 4);
        Check.due("trays", x.sum(0), 3);
        Check.due("got(0)", x.got(0), -1);
        Check.due("got(1)", x.got(1), 1);
        Check.due("got(2)", x.got(2), -1);
        Check.due("waits(0)", x.waits(0), 0);
        Check.due("waits(1)", x.waits(1), 3);
        Check.due("lacking(4)", x.lacking(4), 0);
        Check.due("meets(4)", x.meets(4), 3);
        Check.due("unloaded()", x.unloaded(), 0);
    }

    /** Any of cabin, heat, kind, trolley may lack; the FAULT stands at the end. */
    private static void lacks() {
        String[] lines = {"cabin rows 2 walk 0 serve 1", "heat least 0 cools 0", "kind k shape 1 hot 1", "trolley t front drawers 1 holds 8"};
        for (int bits = 0; bits < 16; bits++) {
            StringBuilder text = new StringBuilder("gap 1");
            for (int i = 3; i >= 0; i--) {
                text.append((bits >> i & 1) == 1 ? ";" + lines[i] : "");
            }
            if (bits == 15) {
                Check.fine(text.toString());
            } else {
                Check.fault(text.toString(), 6, text.length());
                Check.fault(text + ";gap 41", 4, text.length() + 5);
                Check.fault(text + ";", 1, text.length() + 1);
            }
        }
    }

    /** Of FAULTS at one place the least number: FORM at an end that lacks, a cabin told again that there is no room for. */
    private static void leastOfOnePlace() {
        Check.fault("cabin rows 2 walk 0 serve 1;", 1, 28);
        Check.fault("cabin rows 2 walk 0 serve", 1, 25);
        Check.fault(CABIN + "cabin", 3, CABIN.length());
        Check.fault(CABIN + "heat", 3, CABIN.length());
        Check.fault(CABIN + NAMES + "cabin rows 99", 3, CABIN.length() + NAMES.length());
        Check.fault("heat least 0 cools 0;heat ?", 3, 21);
        Check.fault("heat least 0 cools 0;heats", 1, 21);
    }

    /** Whatever was told before, a FLIGHT is as if it were the first one. */
    private static void noTrace() {
        String full = "cabin rows 4 walk 9 serve 9;heat least 60 cools 50;kind c shape 3 hot 80;kind v shape 2 hot 70;"
                + "trolley tf front drawers 9 holds 9;trolley tb back drawers 9 holds 10;load tf c many 9;load tb c many 9;"
                + "load tb v many 9;block 1 to 1 seats 2 likes c 1,v 1;block 1 to 4 seats 2 likes c 1,v 2;named n row 1 eats v child;"
                + "named m row 2 eats v;batch c at 9;batch v at 2;took c 1 of 2;took v 1 of 2;past at 0 from 1 to 4;belts 0 to 1;"
                + "belts 2 to 3;gap 2;gap 3;drink t price 3";
        String some = "cabin rows 3 walk 1 serve 60;heat least 1 cools 9;kind c shape 1 hot 9;trolley tb back drawers 1 holds 8;"
                + "load tb c many 2;block 2 to 2 seats 3 likes c 1;named n row 3 eats c;batch c at 3;took c 1 of 1;past at 0 from 1 to 4;"
                + "belts 5 to 6;gap 40";
        String bare = "cabin rows 4 walk 0 serve 60;heat least 0 cools 1;kind v shape 1 hot 1;kind c shape 8 hot 9;trolley tb back drawers 2 holds 8";
        String[] texts = {full, some, bare, full + "?", some + ";kind c", "", bare + ";block 1 to 4 seats 9 likes v 9,c 9;gap 0"};
        for (String first : texts) {
            for (String second : texts) {
                for (int last = 0; last < 3; last++) {
                    TwoTrolleys x = new TwoTrolleys();
                    Check.tell(x, first);
                    Check.tell(x, second);
                    x.finish();
                    x.mark();
                    Check.tell(x, texts[last]);
                    x.finish();
                    TwoTrolleys y = Check.flight(texts[last]);
                    y.finish();
                    Check.due("no trace of " + first + " and " + second, Look.at(x).equals(Look.at(y)), true);
                }
            }
        }
    }
}
