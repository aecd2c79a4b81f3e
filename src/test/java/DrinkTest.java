/** Promises 40 to 47: drinks and the TILL, ROWS led astray, sizes, TROUBLE. */
public final class DrinkTest {
    private static final int[] COINS = {1, 2, 5, 10, 20, 50};
    private static final String DRINKS = Check.BASE + ";drink t price 3;drink w price 50;drink z price 1;drink y price 99";

    public static void main(String[] args) {
        till();
        sell();
        fewestCoins();
        refusedSales();
        change();
        everyChange();
        led();
        size();
        trouble();
        troubleGoes();
        Check.end("DrinkTest");
    }

    private static void till() {
        TwoTrolleys x = new TwoTrolleys();
        int worth = 0;
        for (int coin : COINS) {
            Check.due(x, "till(" + coin + ", 99)", x.till(coin, 99), true, 0);
            worth += 99 * coin;
            Check.due("coins()", x.coins(), worth);
        }
        Check.due(x, "till(1, 0)", x.till(1, 0), true, 0);
        Check.due("so many are there, not more", x.coins(), worth - 99);
        int[] none = {0, 3, -1, 100, 4, 51, Integer.MIN_VALUE, Integer.MAX_VALUE};
        for (int v : none) {
            Check.due(x, "till(" + v + ", 1)", x.till(v, 1), false, 2);
            Check.due(x, "given(" + v + ")", x.given(v), -1, 2);
        }
        Check.due(x, "till(2, 100)", x.till(2, 100), false, 2);
        Check.due(x, "till(2, -1)", x.till(2, -1), false, 2);
        Check.due("a refusal changes nothing", x.coins(), worth - 99);
        Check.due(x, "given(1) ahead of any", x.given(1), 0, 0);
        Check.due(x, "given(50) ahead of any", x.given(50), 0, 0);
    }

    private static TwoTrolleys withTill(int... many) {
        TwoTrolleys x = Check.flight(DRINKS);
        for (int i = 0; i < COINS.length; i++) {
            x.till(COINS[i], many[i]);
        }
        return x;
    }

    private static void given(TwoTrolleys x, String call, int... many) {
        for (int i = 0; i < COINS.length; i++) {
            Check.due(call + " given(" + COINS[i] + ")", x.given(COINS[i]), many[i]);
        }
    }

    private static void sell() {
        TwoTrolleys x = withTill(2, 0, 1, 0, 0, 0);
        Check.due(x, "sell(2, 1), no change needed", x.sell(2, 1), 0, 0);
        given(x, "sell(2, 1)", 0, 0, 0, 0, 0, 0);
        Check.due("coins()", x.coins(), 8);
        Check.due(x, "sell(0, 5)", x.sell(0, 5), 2, 0);
        given(x, "sell(0, 5)", 2, 0, 0, 0, 0, 0);
        Check.due("coins()", x.coins(), 11);
        // The coin itself is no change: 10 for 1 needs 9, there are 1, 5, 5.
        Check.due(x, "sell(2, 10)", x.sell(2, 10), -1, 6);
        given(x, "a refused sell()", 2, 0, 0, 0, 0, 0);
        Check.due("nothing is taken", x.coins(), 11);
        Check.due("sell(1, 50)", x.sell(1, 50), 0);
        Check.due("coins()", x.coins(), 61);
        Check.due("sell(1, 100)", x.sell(1, 100), 50);
        given(x, "sell(1, 100)", 0, 0, 0, 0, 0, 1);
        Check.due("a note is no coin", x.coins(), 11);
        Check.due("notes taken", x.size(15), 1);
        Check.due("sell(3, 100)", x.sell(3, 100), 1);
        Check.due("notes taken", x.size(15), 2);
        given(x, "sell(3, 100)", 1, 0, 0, 0, 0, 0);
        Check.tell(x, Check.BASE);
        Check.due("the TILL stays with another FLIGHT", x.coins(), 10);
        Check.due("notes too", x.size(15), 2);
        Check.due("no drink", x.sell(0, 5), -1);
    }

    private static void fewestCoins() {
        // 60 is 20 20 20, not 50 and ten of 1.
        TwoTrolleys x = withTill(20, 0, 0, 0, 3, 1);
        Check.due("40 is left to sell", Check.tell(x, Check.BASE + ";drink t price 40;drink u price 20"), 2);
        Check.due("sell(0, 100)", x.sell(0, 100), 60);
        given(x, "60", 0, 0, 0, 0, 3, 0);
        // 6 is 2 2 2 with no 1 there.
        TwoTrolleys y = withTill(0, 3, 1, 0, 0, 0);
        Check.tell(y, Check.BASE + ";drink t price 4");
        Check.due("sell(0, 10)", y.sell(0, 10), 6);
        given(y, "6", 0, 3, 0, 0, 0, 0);
        // 60 is 50 5 5 or 20 20 20: of like ones the most of the greatest.
        TwoTrolleys z = withTill(0, 0, 2, 0, 3, 1);
        Check.tell(z, Check.BASE + ";drink t price 40");
        Check.due("sell(0, 100)", z.sell(0, 100), 60);
        given(z, "60", 0, 0, 2, 0, 0, 1);
        TwoTrolleys w = withTill(9, 9, 9, 9, 9, 9);
        Check.due("sell(2, 100)", w.sell(2, 100), 99);
        given(w, "99", 0, 2, 1, 0, 2, 1);
        Check.due("coins()", w.coins(), 9 * 88 - 99);
    }

    private static void refusedSales() {
        TwoTrolleys none = new TwoTrolleys();
        Check.due(none, "sell(0, 5) without a FLIGHT", none.sell(0, 5), -1, 1);
        Check.due(none, "sell(0, 3) without a FLIGHT", none.sell(0, 3), -1, 1);
        TwoTrolleys x = withTill(99, 99, 99, 99, 99, 98);
        Check.due(x, "sell(4, 5)", x.sell(4, 5), -1, 1);
        Check.due(x, "sell(-1, 5)", x.sell(-1, 5), -1, 1);
        Check.due(x, "sell(0, 3)", x.sell(0, 3), -1, 2);
        Check.due(x, "sell(0, 0)", x.sell(0, 0), -1, 2);
        Check.due(x, "sell(0, 101)", x.sell(0, 101), -1, 2);
        Check.due(x, "sell(0, -5)", x.sell(0, -5), -1, 2);
        Check.due(x, "sell(0, 2), below its price", x.sell(0, 2), -1, 5);
        Check.due(x, "sell(1, 20), below its price", x.sell(1, 20), -1, 5);
        Check.due(x, "sell(0, 5), 99 are there", x.sell(0, 5), -1, 6);
        Check.due(x, "sell(2, 1), 99 are there", x.sell(2, 1), -1, 6);
        Check.due(x, "sell(3, 100), a note", x.sell(3, 100), 1, 0);
        Check.due(x, "sell(1, 50), the 99th", x.sell(1, 50), 0, 0);
        Check.due(x, "sell(1, 50), one more", x.sell(1, 50), -1, 6);
        TwoTrolleys y = withTill(0, 0, 0, 0, 0, 0);
        Check.due(y, "sell(0, 5) without change", y.sell(0, 5), -1, 6);
        Check.due(y, "coins() then", y.coins(), 0, 6);
    }

    private static void change() {
        TwoTrolleys x = new TwoTrolleys();
        for (int coin : COINS) {
            x.till(coin, 99);
        }
        Check.due(x, "change(0)", x.change(0), 1, 0);
        Check.due(x, "change(5)", x.change(5), 4, 0);
        Check.due(x, "change(10)", x.change(10), 11, 0);
        Check.due(x, "change(-1)", x.change(-1), -1, 2);
        Check.due(x, "change(200)", x.change(200), -1, 2);
        Check.due(x, "change(199)", x.change(199) > 0, true, 0);
    }

    private static void everyChange() {
        int[][] tills = {{3, 2, 1, 1, 1, 1}, {0, 99, 0, 2, 0, 3}, {99, 0, 99, 0, 99, 0}, {99, 99, 99, 99, 99, 99},
            {1, 0, 3, 0, 9, 0}, {0, 0, 0, 0, 0, 99}};
        for (int[] many : tills) {
            TwoTrolleys x = withTill(many);
            for (int v = 0; v <= 199; v++) {
                Check.due("change(" + v + ")", x.change(v), ways(many, 5, v));
            }
        }
    }

    private static int ways(int[] many, int coin, int rest) {
        if (coin < 0) {
            return rest == 0 ? 1 : 0;
        }
        int ways = 0;
        for (int i = 0; i <= many[coin] && i * COINS[coin] <= rest; i++) {
            ways += ways(many, coin - 1, rest - i * COINS[coin]);
        }
        return ways;
    }

    private static void led() {
        TwoTrolleys none = new TwoTrolleys();
        none.sits(0);
        Check.due("led(0) without a FLIGHT throws", Check.ledThrows(none, 0), true);
        Check.due("led() sets no TROUBLE", none.trouble(), 1);
        // ROW 4 has NOTHING by a named one, ROW 2 NO CHOICE, ROWS 1 and 3 get what they like.
        TwoTrolleys x = Check.flight("cabin rows 4 walk 0 serve 1;heat least 0 cools 0;kind c shape 1 hot 1;"
                + "kind v shape 1 hot 1;kind w shape 1 hot 1;trolley b back drawers 1 holds 8;load b c many 9;"
                + "block 1 to 3 seats 1 likes c 1;block 2 to 2 seats 1 likes v 1;named n row 4 eats w");
        Check.due("led(0) ahead of a RUN throws", Check.ledThrows(x, 0), true);
        x.step();
        Check.due("led(0)", x.led(0), 4);
        Check.due("led(1) throws", Check.ledThrows(x, 1), true);
        x.finish();
        Check.due("led(0), by ROWS", x.led(0), 2);
        Check.due("led(1)", x.led(1), 4);
        Check.due("led(2) throws", Check.ledThrows(x, 2), true);
        Check.due("led(-1) throws", Check.ledThrows(x, -1), true);
        Check.due("led(least) throws", Check.ledThrows(x, Integer.MIN_VALUE), true);
        Check.due("led(greatest) throws", Check.ledThrows(x, Integer.MAX_VALUE), true);
        Check.due("led() sets no TROUBLE", x.trouble(), 0);
    }

    private static void size() {
        TwoTrolleys x = Check.flight("cabin rows 9 walk 0 serve 1;heat least 0 cools 0;kind c shape 1 hot 1;"
                + "kind v shape 1 hot 1;kind w shape 1 hot 1;kind y shape 1 hot 1;"
                + "trolley b back drawers 1 holds 8;trolley f front drawers 1 holds 8;"
                + "load b c many 9;load b c many 9;load b c many 9;load b v many 9;load b c many 1;load f w many 1;load f w many 2;"
                + "block 1 to 3 seats 1 likes c 1;block 12 to 12 seats 1 likes v 1;block 1 to 3 seats 1 likes v 1;"
                + "named n row 4 eats w;named m row 40 eats w;named o row 3 eats v;named p row 3 eats v child;"
                + "named q row 1 eats c;batch c at 3;batch c at 4;batch c at 3;batch v at 3;batch v at 9;batch v at 1;"
                + "belts 3 to 4;gap 40;gap 1;past at 3 from 1 to 40;past at 4 from 1 to 40;past at 5 from 4 to 1;"
                + "took c 1 of 2;took c 1 of 2;took c 3 of 5;took v 1 of 2;drink d price 1;drink e price 1");
        int[] sizes = {9, 4, 2, 7, 3, 5, 6, 1, 2, 3, 4, 2, 0, 0, 0, 0};
        for (int what = 0; what < sizes.length; what++) {
            Check.due("size(" + what + ")", x.size(what), sizes[what]);
        }
        x.start(4711);
        x.mark();
        x.mark();
        x.till(50, 2);
        x.till(20, 9);
        x.till(5, 9);
        x.till(2, 9);
        x.sell(0, 100);
        x.feed(0, 0, 0, 0, 0);
        x.sits(77);
        Check.due("size(12)", x.size(12), 2);
        Check.due("size(13)", x.size(13), 4711);
        Check.due("size(14)", x.size(14), 20);
        Check.due("size(15)", x.size(15), 1);
        int[] others = {-1, 16, 17, Integer.MIN_VALUE, Integer.MAX_VALUE};
        for (int what : others) {
            Check.due(x, "size(" + what + ")", x.size(what), -1, 1);
        }
    }

    /** Calls of which no number is told leave TROUBLE, all others set it. */
    private static void trouble() {
        TwoTrolleys x = Check.flight(DRINKS);
        Check.due("behind flight()", x.trouble(), 0);
        x.sits(0);
        x.feed(0, 0, 0, 0, 0);
        x.fault();
        x.where();
        x.coins();
        x.size(0);
        x.size(99);
        Check.ledThrows(x, 0);
        x.trouble();
        Check.due("the calls without a number leave it", x.trouble(), 1);
        x.given(1);
        Check.due("behind given(1)", x.trouble(), 0);
        x.feed(-1, 0, 0, 0, 0);
        Check.due(x, "flight(20)", x.flight(20), -1, 4);
        Check.due("where()", x.where(), 0);
        x.size(1);
        x.feed(0, 0, 0, 0, 0);
        Check.due("where() yet", x.where(), 0);
        x.all();
        Check.due("where() behind another call", x.where(), -1);
        Check.due("fault() yet", x.fault(), 1);
    }

    private static void cleared(TwoTrolleys x, String call, long answer) {
        Check.due("trouble() behind " + call + ", which answered " + answer, x.trouble(), 0);
        x.given(3);
        Check.due("trouble() behind given(3)", x.trouble(), 2);
    }

    /** Each call that may be refused sets TROUBLE to 0 if it wasn't. */
    private static void troubleGoes() {
        TwoTrolleys x = Check.flight(DRINKS + ";load f c many 5;block 1 to 4 seats 1 likes c 1;named n row 1 eats c;"
                + "past at 0 from 1 to 4;took c 1 of 2");
        cleared(x, "flight", 0);
        cleared(x, "start(3)", x.start(3) ? 1 : 0);
        cleared(x, "mark()", x.mark());
        cleared(x, "step()", x.step());
        cleared(x, "finish()", x.finish());
        cleared(x, "sits(1)", x.sits(1));
        cleared(x, "all()", x.all());
        cleared(x, "likes(1, 0)", x.likes(1, 0));
        cleared(x, "loaded(0, 0)", x.loaded(0, 0));
        cleared(x, "fitsIn(0)", x.fitsIn(0));
        cleared(x, "seconds(0)", x.seconds(0));
        cleared(x, "left(0, 0)", x.left(0, 0));
        cleared(x, "served(1, 0)", x.served(1, 0));
        cleared(x, "trays(1, 0)", x.trays(1, 0));
        cleared(x, "got(0)", x.got(0));
        for (int what = 0; what <= 5; what++) {
            cleared(x, "sum(" + what + ")", x.sum(what));
        }
        cleared(x, "heat(0, 0)", x.heat(0, 0));
        cleared(x, "cold(0, 0)", x.cold(0, 0));
        cleared(x, "meets(0)", x.meets(0));
        cleared(x, "soonest()", x.soonest());
        cleared(x, "lacking(0)", x.lacking(0));
        cleared(x, "fairest()", x.fairest());
        cleared(x, "met()", x.met());
        cleared(x, "out(1, 0, 0)", x.out(1, 0, 0));
        cleared(x, "ways(1)", x.ways(1));
        cleared(x, "enough(1, 0, 0)", x.enough(1, 0, 0));
        cleared(x, "load(0, true)", x.load(0, true));
        cleared(x, "spare(0)", x.spare(0));
        cleared(x, "unloaded()", x.unloaded());
        cleared(x, "waits(0)", x.waits(0));
        cleared(x, "on(0, 0)", x.on(0, 0));
        cleared(x, "on(0, 99999)", x.on(0, 99999));
        cleared(x, "clear(0)", x.clear(0));
        cleared(x, "room(0, 0)", x.room(0, 0));
        cleared(x, "fewest(0, 0, 0, 0, 0)", x.fewest(0, 0, 0, 0, 0));
        cleared(x, "till(1, 9)", x.till(1, 9) ? 1 : 0);
        cleared(x, "sell(0, 5)", x.sell(0, 5));
        cleared(x, "given(1)", x.given(1));
        cleared(x, "change(1)", x.change(1));
        cleared(x, "back(0)", x.back(0) ? 1 : 0);
    }
}
