/** Each call that may be refused, by each number with which it is refused: what it answers, and that all else stays. */
public final class RefusalTest {
    /** Four ROWS of 6, 4, 0 and 3, so that ten are ahead of ROW 3 and 4, and a named one beyond the cabin. */
    private static final String FLIGHT = "cabin rows 4 walk 10 serve 20;heat least 60 cools 10;"
            + "kind c shape 3 hot 80;kind v shape 2 hot 70;trolley b back drawers 2 holds 8;trolley f front drawers 1 holds 10;"
            + "load f c many 9;load b v many 9;block 1 to 1 seats 7 likes c 1,v 1;block 2 to 2 seats 4 likes c 1,v 2;"
            + "block 4 to 4 seats 3 likes v 1;named n row 1 eats v;named m row 4 eats v;named o row 5 eats v;"
            + "batch c at 9;took c 1 of 2;past at 0 from 1 to 4;belts 1 to 2;gap 2;drink t price 3;drink u price 60";
    private static final int LEAST = Integer.MIN_VALUE;
    private static final int GREATEST = Integer.MAX_VALUE;

    /** A call of which the answer is a number; true is 1, false 0. */
    private interface Call {
        long on(TwoTrolleys x);
    }

    /** How an object comes to be as it is ahead of the call. */
    private interface State {
        TwoTrolleys make();
    }

    public static void main(String[] args) {
        cabin();
        runs();
        heat();
        marks();
        meeting();
        odds();
        past();
        till();
        texts();
        noFlight();
        notRefused();
        Check.end("RefusalTest");
    }

    private static TwoTrolleys fresh() {
        TwoTrolleys x = Check.flight(FLIGHT);
        x.till(1, 2);
        x.till(50, 99);
        return x;
    }

    /** Two ROWS served, a MARK, a sale, a few bytes on THE TAPE. */
    private static TwoTrolleys midway() {
        TwoTrolleys x = fresh();
        x.start(77);
        x.mark();
        x.step();
        x.step();
        x.sell(0, 5);
        x.feed(1, 2, 3, 4, 5);
        return x;
    }

    private static TwoTrolleys over() {
        TwoTrolleys x = fresh();
        x.start(65536);
        x.finish();
        for (int i = 0; i < 4; i++) {
            x.mark();
        }
        return x;
    }

    private static void refused(State state, String name, Call call, long answer, int trouble) {
        TwoTrolleys x = state.make();
        String before = Look.at(x);
        Check.due(x, name, call.on(x), answer, trouble);
        Check.due("where() behind " + name, x.where(), -1);
        Check.due("all stays behind " + name, Look.at(x).equals(before), true);
    }

    private static void refused(String name, Call call, long answer, int trouble) {
        refused(RefusalTest::midway, name, call, answer, trouble);
    }

    private static void cabin() {
        int[] noRows = {0, 5, -1, 41, LEAST, GREATEST};
        int[] noKinds = {2, -1, 4, LEAST, GREATEST};
        int[] noTrolleys = {2, -1, LEAST, GREATEST};
        for (int row : noRows) {
            refused("sits(" + row + ")", x -> x.sits(row), -1, 1);
            refused("likes(" + row + ", 0)", x -> x.likes(row, 0), -1, 1);
        }
        for (int kind : noKinds) {
            refused("likes(1, " + kind + ")", x -> x.likes(1, kind), -1, 1);
            refused("loaded(0, " + kind + ")", x -> x.loaded(0, kind), -1, 1);
        }
        for (int trolley : noTrolleys) {
            refused("loaded(" + trolley + ", 0)", x -> x.loaded(trolley, 0), -1, 1);
            refused("fitsIn(" + trolley + ")", x -> x.fitsIn(trolley), -1, 1);
        }
    }

    private static void runs() {
        int[] noSeeds = {-1, 65537, LEAST, GREATEST};
        for (int seed : noSeeds) {
            refused("start(" + seed + ")", x -> x.start(seed) ? 1 : 0, 0, 2);
        }
        refused(RefusalTest::over, "step() when over", x -> x.step(), -1, 6);
        int[] noTrolleys = {2, -1, LEAST, GREATEST};
        for (int trolley : noTrolleys) {
            refused("seconds(" + trolley + ")", x -> x.seconds(trolley), -1, 1);
            refused("left(" + trolley + ", 0)", x -> x.left(trolley, 0), -1, 1);
        }
        refused("left(0, 2)", x -> x.left(0, 2), -1, 1);
        refused("left(0, -1)", x -> x.left(0, -1), -1, 1);
        rowsServed();
        named();
        int[] noSums = {-1, 6, 7, LEAST, GREATEST};
        for (int what : noSums) {
            refused("sum(" + what + ")", x -> x.sum(what), -1, 1);
        }
    }

    /** ROWS 1 and 4 are SERVED midway, 2 and 3 are not. */
    private static void rowsServed() {
        int[] noRows = {0, 5, -1, LEAST, GREATEST};
        for (int row : noRows) {
            refused("served(" + row + ", 0)", x -> x.served(row, 0), -1, 1);
            refused("trays(" + row + ", 0)", x -> x.trays(row, 0), -1, 1);
        }
        int[] noFacts = {-1, 7, LEAST, GREATEST};
        for (int what : noFacts) {
            refused("served(1, " + what + ")", x -> x.served(1, what), -1, 1);
            refused("served(2, " + what + "), not SERVED either", x -> x.served(2, what), -1, 1);
        }
        for (int what = 0; what <= 6; what++) {
            int fact = what;
            refused("served(2, " + what + ")", x -> x.served(2, fact), -1, 6);
            refused("served(3, " + what + ")", x -> x.served(3, fact), -1, 6);
            refused(RefusalTest::fresh, "served(1, " + what + ") of none", x -> x.served(1, fact), -1, 6);
        }
        refused("trays(1, 2)", x -> x.trays(1, 2), -1, 1);
        refused("trays(2, 2), not SERVED either", x -> x.trays(2, 2), -1, 1);
        refused("trays(1, -1)", x -> x.trays(1, -1), -1, 1);
        refused("trays(2, 0)", x -> x.trays(2, 0), -1, 6);
        refused("trays(3, 1)", x -> x.trays(3, 1), -1, 6);
    }

    private static void named() {
        refused("got(-1)", x -> x.got(-1), -1, 1);
        refused("got(3)", x -> x.got(3), -1, 1);
        refused("got(2), beyond the cabin", x -> x.got(2), -1, 1);
        refused(RefusalTest::over, "got(2), beyond the cabin, over", x -> x.got(2), -1, 1);
        refused("got(greatest)", x -> x.got(GREATEST), -1, 1);
        refused("got(least)", x -> x.got(LEAST), -1, 1);
        refused(RefusalTest::fresh, "got(0)", x -> x.got(0), -1, 6);
        refused(RefusalTest::fresh, "got(1)", x -> x.got(1), -1, 6);
    }

    private static void heat() {
        int[] noKinds = {-1, 2, LEAST, GREATEST};
        for (int kind : noKinds) {
            refused("heat(" + kind + ", 0)", x -> x.heat(kind, 0), -1000, 1);
            refused("heat(" + kind + ", -1)", x -> x.heat(kind, -1), -1000, 1);
            refused("cold(" + kind + ", 0)", x -> x.cold(kind, 0), -1, 1);
            refused("cold(" + kind + ", 1000)", x -> x.cold(kind, 1000), -1, 1);
        }
        int[] noMinutes = {-1, 1000, LEAST, GREATEST};
        for (int minute : noMinutes) {
            refused("heat(1, " + minute + ")", x -> x.heat(1, minute), -1000, 2);
            refused("cold(1, " + minute + ")", x -> x.cold(1, minute), -1, 2);
        }
    }

    private static void marks() {
        refused(RefusalTest::over, "mark() with four", x -> x.mark(), -1, 3);
        int[] noMarks = {-1, 1, 2, 3, 4, LEAST, GREATEST};
        for (int mark : noMarks) {
            refused("back(" + mark + ")", x -> x.back(mark) ? 1 : 0, 0, 1);
        }
        refused(RefusalTest::over, "back(4) with four", x -> x.back(4) ? 1 : 0, 0, 1);
        refused(RefusalTest::fresh, "back(0) with none", x -> x.back(0) ? 1 : 0, 0, 1);
    }

    private static void meeting() {
        int[] noMeetings = {-1, 5, LEAST, GREATEST};
        for (int at : noMeetings) {
            refused("meets(" + at + ")", x -> x.meets(at), -1, 2);
            refused("lacking(" + at + ")", x -> x.lacking(at), -1, 2);
        }
        refused("met() midway", x -> x.met(), -1, 5);
        refused(RefusalTest::fresh, "met() at the beginning", x -> x.met(), -1, 5);
        State backAlone = () -> Check.flight(Check.BASE.replace("trolley f front drawers 2 holds 8;", ""));
        refused(backAlone, "met() without a front trolley", x -> x.met(), -1, 1);
    }

    private static void odds() {
        int[] noRows = {0, 5, -1, LEAST, GREATEST};
        for (int row : noRows) {
            refused("out(" + row + ", 0, 0)", x -> x.out(row, 0, 0), -1, 1);
            refused("out(" + row + ", 0, 100)", x -> x.out(row, 0, 100), -1, 1);
            refused("ways(" + row + ")", x -> x.ways(row), -1, 1);
            refused("enough(" + row + ", 0, 0)", x -> x.enough(row, 0, 0), -1, 1);
            refused("enough(" + row + ", 0, -1)", x -> x.enough(row, 0, -1), -1, 1);
        }
        int[] noKinds = {-1, 2, LEAST, GREATEST};
        for (int kind : noKinds) {
            refused("out(2, " + kind + ", 0)", x -> x.out(2, kind, 0), -1, 1);
            refused("enough(2, " + kind + ", 0)", x -> x.enough(2, kind, 0), -1, 1);
            refused("load(" + kind + ", true)", x -> x.load(kind, true), -1, 1);
            refused("load(" + kind + ", false)", x -> x.load(kind, false), -1, 1);
            refused("spare(" + kind + ")", x -> x.spare(kind), -1000, 1);
        }
        int[] noNumbers = {-1, 100, LEAST, GREATEST};
        for (int number : noNumbers) {
            refused("out(2, 0, " + number + ")", x -> x.out(2, 0, number), -1, 2);
            refused("enough(2, 0, " + number + ")", x -> x.enough(2, 0, number), -1, 2);
        }
        refused("load(1, true), no former flight", x -> x.load(1, true), -1, 6);
        refused("load(1, false), no former flight", x -> x.load(1, false), -1, 6);
        refused("spare(1), no former flight", x -> x.spare(1), -1000, 6);
        tooManyAhead();
    }

    private static void tooManyAhead() {
        State eleven = () -> Check.flight(FLIGHT + ";block 3 to 3 seats 1 likes c 1");
        refused(eleven, "ways(4) of eleven", x -> x.ways(4), -1, 3);
        refused(eleven, "out(4, 0, 0) of eleven", x -> x.out(4, 0, 0), -1, 3);
        refused(eleven, "out(4, 0, 99) of eleven", x -> x.out(4, 0, 99), -1, 3);
        refused(eleven, "out(4, 0, 100) of eleven", x -> x.out(4, 0, 100), -1, 2);
        refused(eleven, "out(4, 2, 0) of eleven", x -> x.out(4, 2, 0), -1, 1);
        refused(eleven, "enough(4, 0, 99) of eleven", x -> x.enough(4, 0, 99), -1, 3);
        refused(eleven, "enough(4, 0, 100) of eleven", x -> x.enough(4, 0, 100), -1, 2);
        refused(eleven, "enough(4, 2, 0) of eleven", x -> x.enough(4, 2, 0), -1, 1);
    }

    private static void past() {
        int[] noPasts = {-1, 1, 4, LEAST, GREATEST};
        for (int past : noPasts) {
            refused("waits(" + past + ")", x -> x.waits(past), -1, 1);
        }
        int[] noTrolleys = {-1, 2, LEAST, GREATEST};
        for (int trolley : noTrolleys) {
            refused("on(" + trolley + ", 0)", x -> x.on(trolley, 0), -1, 1);
            refused("on(" + trolley + ", -1)", x -> x.on(trolley, -1), -1, 1);
            refused("clear(" + trolley + ")", x -> x.clear(trolley), -1, 1);
            refused("room(" + trolley + ", 0)", x -> x.room(trolley, 0), -1, 1);
            refused("fewest(" + trolley + ", 0, 0, 0, 0)", x -> x.fewest(trolley, 0, 0, 0, 0), -1, 1);
            refused("fewest(" + trolley + ", -1, 0, 0, 0)", x -> x.fewest(trolley, -1, 0, 0, 0), -1, 1);
            refused("fewest(" + trolley + ", 25, 0, 0, 0)", x -> x.fewest(trolley, 25, 0, 0, 0), -1, 1);
        }
        int[] noSeconds = {-1, 100000, LEAST, GREATEST};
        for (int second : noSeconds) {
            refused("on(0, " + second + ")", x -> x.on(0, second), -1, 2);
        }
        int[] noDrawers = {-1, 2, 13, 14, LEAST, GREATEST};
        for (int drawer : noDrawers) {
            refused("room(0, " + drawer + ")", x -> x.room(0, drawer), -1, 1);
        }
        refused("room(1, 1), the other has two", x -> x.room(1, 1), -1, 1);
        trays();
    }

    private static void trays() {
        refused("fewest(0, -1, 0, 0, 0)", x -> x.fewest(0, -1, 0, 0, 0), -1, 2);
        refused("fewest(0, 0, -1, 0, 0)", x -> x.fewest(0, 0, -1, 0, 0), -1, 2);
        refused("fewest(0, 0, 0, -1, 0)", x -> x.fewest(0, 0, 0, -1, 0), -1, 2);
        refused("fewest(0, 0, 0, 0, -1)", x -> x.fewest(0, 0, 0, 0, -1), -1, 2);
        refused("fewest(0, 0, 0, 1, 0)", x -> x.fewest(0, 0, 0, 1, 0), -1, 2);
        refused("fewest(0, 0, 0, 0, 1)", x -> x.fewest(0, 0, 0, 0, 1), -1, 2);
        refused("fewest(0, 24, 0, 1, 0)", x -> x.fewest(0, 24, 0, 1, 0), -1, 2);
        refused("fewest(0, least, 0, 0, 0)", x -> x.fewest(0, LEAST, 0, 0, 0), -1, 2);
        refused("fewest(0, 25, 0, 0, 0)", x -> x.fewest(0, 25, 0, 0, 0), -1, 3);
        refused("fewest(0, 0, 25, 0, 0)", x -> x.fewest(0, 0, 25, 0, 0), -1, 3);
        refused("fewest(0, 13, 12, 0, 0)", x -> x.fewest(0, 13, 12, 0, 0), -1, 3);
        refused("fewest(0, greatest, 1, 0, 0)", x -> x.fewest(0, GREATEST, 1, 0, 0), -1, 3);
        refused("fewest(0, greatest, greatest, 0, 0)", x -> x.fewest(0, GREATEST, GREATEST, 0, 0), -1, 3);
    }

    private static void till() {
        int[] noCoins = {0, 3, 4, 6, 9, 11, 19, 21, 49, 51, 100, 200, -1, -2, LEAST, GREATEST};
        for (int v : noCoins) {
            refused("till(" + v + ", 1)", x -> x.till(v, 1) ? 1 : 0, 0, 2);
            refused("given(" + v + ")", x -> x.given(v), -1, 2);
            if (v != 100) {
                refused("sell(0, " + v + ")", x -> x.sell(0, v), -1, 2);
            }
            refused("sell(2, " + v + ")", x -> x.sell(2, v), -1, 1);
        }
        int[] noMany = {-1, 100, LEAST, GREATEST};
        for (int many : noMany) {
            refused("till(1, " + many + ")", x -> x.till(1, many) ? 1 : 0, 0, 2);
            refused("till(50, " + many + ")", x -> x.till(50, many) ? 1 : 0, 0, 2);
        }
        int[] noDrinks = {-1, 2, 4, LEAST, GREATEST};
        for (int drink : noDrinks) {
            refused("sell(" + drink + ", 5)", x -> x.sell(drink, 5), -1, 1);
        }
        refused("sell(0, 1), below its price", x -> x.sell(0, 1), -1, 5);
        refused("sell(0, 2), below its price", x -> x.sell(0, 2), -1, 5);
        refused("sell(1, 50), below its price, 99 are there", x -> x.sell(1, 50), -1, 5);
        refused("sell(0, 50), 99 are there", x -> x.sell(0, 50), -1, 6);
        refused("sell(0, 10), no such change", x -> x.sell(0, 10), -1, 6);
        refused("sell(1, 100), no such change", x -> x.sell(1, 100), -1, 6);
        int[] noChange = {-1, 200, LEAST, GREATEST};
        for (int v : noChange) {
            refused("change(" + v + ")", x -> x.change(v), -1, 2);
        }
    }

    /** A text that is refused by 2 stays on THE TAPE; one that is refused by 4 goes, and nothing else does. */
    private static void texts() {
        int[] noLengths = {-1, 21, 900, 901, LEAST, GREATEST};
        for (int n : noLengths) {
            refused("flight(" + n + ")", x -> x.flight(n), -1, 2);
        }
        State[] states = {TwoTrolleys::new, RefusalTest::fresh, RefusalTest::midway, RefusalTest::over};
        for (State state : states) {
            TwoTrolleys x = state.make();
            String before = Look.withoutText(x);
            Check.due(x, "a text with a FAULT", Check.tell(x, ""), -1, 4);
            Check.due("its FAULT", x.fault(), 1);
            Check.due("its place", x.where(), 0);
            Check.due("THE TAPE is empty", x.size(14), 0);
            Check.due("all else stays", Look.withoutText(x).equals(before), true);
        }
        TwoTrolleys y = midway();
        String before = Look.withoutText(y);
        y.flight(0);
        Check.due("a whole FLIGHT with a LINE too many", Check.tell(y, Check.BASE + ";gap 3;gap 3;gap 3;gap 3"), -1);
        Check.due("the FLIGHT stays", Look.withoutText(y).equals(before), true);
        y.back(0);
        Check.due("the MARK too", y.sum(5), 0);
        Check.due("its SEED too", y.size(13), 77);
    }

    private static void noFlight() {
        Call[] numbers = {x -> x.sits(1), x -> x.all(), x -> x.likes(1, 0), x -> x.loaded(0, 0), x -> x.fitsIn(0),
            x -> x.step(), x -> x.finish(), x -> x.seconds(0), x -> x.left(0, 0), x -> x.served(1, 0), x -> x.trays(1, 0),
            x -> x.got(0), x -> x.sum(0), x -> x.cold(0, 0), x -> x.mark(), x -> x.meets(0), x -> x.soonest(),
            x -> x.lacking(0), x -> x.fairest(), x -> x.met(), x -> x.out(1, 0, 0), x -> x.ways(1), x -> x.enough(1, 0, 0),
            x -> x.load(0, true), x -> x.load(0, false), x -> x.unloaded(), x -> x.waits(0), x -> x.on(0, 0),
            x -> x.clear(0), x -> x.room(0, 0), x -> x.fewest(0, 0, 0, 0, 0), x -> x.sell(0, 1), x -> x.sell(0, 100),
            x -> x.sum(-1), x -> x.meets(-1), x -> x.lacking(-1), x -> x.sell(0, 3), x -> x.on(0, -1), x -> x.cold(0, -1)};
        State[] states = {TwoTrolleys::new, RefusalTest::withoutFlight};
        for (State state : states) {
            for (int i = 0; i < numbers.length; i++) {
                refused(state, "call " + i + " without a FLIGHT", numbers[i], -1, 1);
            }
            refused(state, "heat(0, 0) without a FLIGHT", x -> x.heat(0, 0), -1000, 1);
            refused(state, "spare(0) without a FLIGHT", x -> x.spare(0), -1000, 1);
            refused(state, "start(0) without a FLIGHT", x -> x.start(0) ? 1 : 0, 0, 1);
            refused(state, "start(65537) without a FLIGHT", x -> x.start(65537) ? 1 : 0, 0, 1);
            refused(state, "back(0) without a FLIGHT", x -> x.back(0) ? 1 : 0, 0, 1);
        }
    }

    /** Texts with FAULTS were told, but no FLIGHT; the last of them was whole but for its end. */
    private static TwoTrolleys withoutFlight() {
        TwoTrolleys x = new TwoTrolleys();
        x.till(5, 3);
        Check.tell(x, "cabin rows 4 walk 10 serve 20");
        Check.tell(x, FLIGHT + "!");
        x.given(1);
        return x;
    }

    /** What only asks changes nothing but TROUBLE, which is 0 then. */
    private static void notRefused() {
        State[] states = {RefusalTest::fresh, RefusalTest::midway, RefusalTest::over};
        for (State state : states) {
            TwoTrolleys x = state.make();
            x.given(3);
            String before = Look.at(x);
            Check.due("a look changes nothing", Look.at(x).equals(before), true);
            Check.due("where()", x.where(), -1);
            Check.due(x, "change(199) behind a look", x.change(199) >= 0, true, 0);
        }
        TwoTrolleys x = over();
        Check.due(x, "finish() when over is no refusal", x.finish(), 0, 0);
        Check.due(x, "on() of no ROW is no refusal", x.on(0, 99999), -2, 0);
        TwoTrolleys y = Check.flight(Check.BASE.replace("least 60 cools 10", "least 0 cools 0"));
        Check.due(y, "cold() of none is no refusal", y.cold(0, 0), -2, 0);
        Check.due(y, "heat() of -1,000 there isn't", y.heat(0, 999), 80, 0);
    }
}
