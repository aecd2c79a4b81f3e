/** Bounds of promises 40 to 47: the TILL up to 99, change to the coin, led, sizes, TROUBLE. */
public final class EdgeTillTest {
    private static final int[] COINS = {1, 2, 5, 10, 20, 50};
    private static final String HEAD = "cabin rows 2 walk 0 serve 1;heat least 0 cools 0;kind a shape 1 hot 1;kind b shape 1 hot 1"
            + ";trolley tf front drawers 1 holds 8";

    public static void main(String[] args) {
        tillBounds();
        tillStays();
        priceAndCoin();
        everyPrice();
        noCoinOfItsOwn();
        ninetyNine();
        notes();
        fewestCoins();
        givenByTheLatest();
        changeBounds();
        changeByCoins();
        led();
        sizes();
        sizeOthers();
        trouble();
        Check.end("EdgeTillTest");
    }

    private static void fill(TwoTrolleys x, int... many) {
        for (int i = 0; i < many.length; i++) {
            Check.due(x, "till(" + COINS[i] + ", " + many[i] + ")", x.till(COINS[i], many[i]), true, 0);
        }
    }

    private static void given(TwoTrolleys x, String call, int... many) {
        for (int i = 0; i < COINS.length; i++) {
            Check.due(x, "given(" + COINS[i] + ") behind " + call, x.given(COINS[i]), many[i], 0);
        }
    }

    private static TwoTrolleys drink(int price, int... many) {
        TwoTrolleys x = Check.flight(HEAD + ";drink d price " + price);
        fill(x, many);
        return x;
    }

    /** 0 .. 99 of each coin; it is the number that is there, whatever was there. */
    private static void tillBounds() {
        for (int coin : COINS) {
            TwoTrolleys x = new TwoTrolleys();
            Check.due(x, "99 of " + coin, x.till(coin, 99), true, 0);
            Check.due("coins()", x.coins(), 99 * coin);
            Check.due(x, "100 of " + coin, x.till(coin, 100), false, 2);
            Check.due(x, "-1 of " + coin, x.till(coin, -1), false, 2);
            Check.due("they stay", x.coins(), 99 * coin);
            Check.due(x, "98 of " + coin, x.till(coin, 98), true, 0);
            Check.due("coins()", x.coins(), 98 * coin);
            Check.due(x, "0 of " + coin, x.till(coin, 0), true, 0);
            Check.due("coins()", x.coins(), 0);
            Check.due(x, "1 of " + coin, x.till(coin, 1), true, 0);
            Check.due(x, "another " + (coin - 1), x.till(coin == 1 ? 0 : coin == 2 ? 3 : coin - 1, 1), false, 2);
            Check.due(x, "another " + (coin + 1), x.till(coin == 1 ? -1 : coin + 1, 1), false, 2);
            Check.due("coins()", x.coins(), coin);
        }
        TwoTrolleys full = new TwoTrolleys();
        fill(full, 99, 99, 99, 99, 99, 99);
        Check.due("coins() of a full TILL", full.coins(), 99 * 88);
    }

    /** The TILL, the notes and what was given stay with flight(), start() and back(). */
    private static void tillStays() {
        TwoTrolleys x = drink(98, 5, 5, 0, 0, 0, 0);
        x.mark();
        Check.due("sell()", x.sell(0, 100), 2);
        for (int i = 0; i < 4; i++) {
            Check.due("coins()", x.coins(), 13);
            Check.due("notes", x.size(15), 1);
            given(x, "call " + i, 0, 1, 0, 0, 0, 0);
            switch (i) {
                case 0: x.back(0); break;
                case 1: x.start(9); break;
                case 2: Check.tell(x, HEAD); break;
                default: Check.tell(x, "!"); break;
            }
        }
    }

    /** v at its price, one above and one below. */
    private static void priceAndCoin() {
        for (int coin : COINS) {
            if (coin > 1) {
                TwoTrolleys less = drink(coin - 1, 1, 0, 0, 0, 0, 0);
                Check.due(less, "one above", less.sell(0, coin), 1, 0);
                given(less, "one above", 1, 0, 0, 0, 0, 0);
                Check.due("coins()", less.coins(), coin);
            }
            TwoTrolleys x = drink(coin);
            Check.due(x, "the price", x.sell(0, coin), 0, 0);
            given(x, "the price", 0, 0, 0, 0, 0, 0);
            Check.due("coins()", x.coins(), coin);
            TwoTrolleys more = drink(coin + 1, 99, 99, 99, 99, 99, 99);
            Check.due(more, "one below", more.sell(0, coin), -1, 5);
            Check.due("coins()", more.coins(), 99 * 88);
        }
        TwoTrolleys x = drink(99, 1, 0, 0, 0, 0, 0);
        Check.due(x, "a note for 99", x.sell(0, 100), 1, 0);
        Check.due(x, "a note more without change", x.sell(0, 100), -1, 6);
        Check.due(x, "a coin for 99", x.sell(0, 50), -1, 5);
    }

    /** Each price by a note out of a till that has enough: the fewest coins there can be. */
    private static void everyPrice() {
        for (int price = 1; price <= 99; price++) {
            TwoTrolleys x = drink(price, 9, 9, 9, 9, 9, 9);
            int above = 100 - price;
            Check.due(x, "a note for " + price, x.sell(0, 100), above, 0);
            int rest = above;
            for (int i = 5; i >= 0; i--) {
                Check.due("given(" + COINS[i] + ") of " + above, x.given(COINS[i]), rest / COINS[i]);
                rest %= COINS[i];
            }
            Check.due("coins()", x.coins(), 9 * 88 - above);
            Check.due("notes", x.size(15), 1);
        }
    }

    /** The coin is in the TILL behind the sale: it can't be given back itself, but by the next one. */
    private static void noCoinOfItsOwn() {
        TwoTrolleys x = Check.flight(HEAD + ";drink d price 1;drink e price 5;drink f price 25");
        Check.due(x, "sell(0, 2)", x.sell(0, 2), -1, 6);
        Check.due(x, "sell(0, 1)", x.sell(0, 1), 0, 0);
        Check.due(x, "sell(0, 2) then", x.sell(0, 2), 1, 0);
        Check.due("coins()", x.coins(), 2);
        Check.due(x, "sell(1, 10)", x.sell(1, 10), -1, 6);
        Check.due(x, "sell(1, 5)", x.sell(1, 5), 0, 0);
        Check.due(x, "sell(1, 10) then", x.sell(1, 10), 5, 0);
        given(x, "sell(1, 10)", 0, 0, 1, 0, 0, 0);
        Check.due("coins()", x.coins(), 12);
        Check.due(x, "sell(2, 50), 25 isn't there", x.sell(2, 50), -1, 6);
        given(x, "a refused one", 0, 0, 1, 0, 0, 0);
    }

    /** The 99th coin is taken, one more is not, whatever is to be given back; notes have no such bound. */
    private static void ninetyNine() {
        for (int i = 0; i < 6; i++) {
            TwoTrolleys x = drink(COINS[i]);
            x.till(COINS[i], 98);
            Check.due(x, "the 99th", x.sell(0, COINS[i]), 0, 0);
            Check.due("coins()", x.coins(), 99 * COINS[i]);
            Check.due(x, "one more", x.sell(0, COINS[i]), -1, 6);
            Check.due("coins()", x.coins(), 99 * COINS[i]);
            x.till(COINS[i], 97);
            Check.due(x, "with room anew", x.sell(0, COINS[i]), 0, 0);
        }
        TwoTrolleys y = drink(3, 0, 99, 99, 0, 0, 0);
        Check.due(y, "99 of 5, though there is change", y.sell(0, 5), -1, 6);
        Check.due(y, "10 is welcome", y.sell(0, 10), 7, 0);
        Check.due(y, "5 once 98 are there", y.sell(0, 5), 2, 0);
    }

    private static void notes() {
        TwoTrolleys x = drink(98, 99, 99, 0, 0, 0, 0);
        for (int i = 1; i <= 120; i++) {
            Check.due("note " + i, x.sell(0, 100), 2);
            if (i % 40 == 0) {
                Check.due("notes", x.size(15), i);
                Check.due("coins()", x.coins(), 99 * 3 - 2 * i);
                given(x, "note " + i, i <= 99 ? 0 : 2, i <= 99 ? 1 : 0, 0, 0, 0, 0);
            }
        }
    }

    /** In fewest coins, of like ones the most of the greatest, and so on; and none if there is no way. */
    private static void fewestCoins() {
        int[][] cases = {
            // price by a note; the TILL; what is given back (-1: no way).
            {40, 0, 0, 2, 0, 3, 1, 0, 0, 2, 0, 0, 1}, {40, 9, 0, 0, 0, 3, 1, 0, 0, 0, 0, 3, 0}, {40, 0, 5, 0, 0, 3, 1, 0, 0, 0, 0, 3, 0},
            {40, 0, 0, 1, 0, 2, 1, -1}, {40, 0, 0, 2, 0, 2, 1, 0, 0, 2, 0, 0, 1}, {40, 0, 0, 2, 1, 3, 1, 0, 0, 0, 1, 0, 1},
            {94, 0, 3, 1, 0, 0, 0, 0, 3, 0, 0, 0, 0}, {94, 1, 3, 1, 0, 0, 0, 1, 0, 1, 0, 0, 0}, {94, 0, 2, 1, 0, 0, 0, -1},
            {20, 0, 0, 0, 3, 4, 1, 0, 0, 0, 1, 1, 1}, {20, 0, 0, 0, 0, 4, 1, 0, 0, 0, 0, 4, 0}, {20, 0, 0, 6, 0, 4, 1, 0, 0, 2, 0, 1, 1},
            {20, 0, 0, 2, 0, 4, 1, 0, 0, 2, 0, 1, 1}, {1, 0, 2, 1, 0, 2, 1, 0, 2, 1, 0, 2, 1}, {1, 1, 1, 1, 1, 1, 1, -1},
            {92, 3, 4, 1, 0, 0, 0, 1, 1, 1, 0, 0, 0}, {92, 0, 4, 1, 0, 0, 0, 0, 4, 0, 0, 0, 0}, {97, 1, 1, 0, 0, 0, 0, 1, 1, 0, 0, 0, 0},
            {97, 3, 0, 9, 9, 9, 9, 3, 0, 0, 0, 0, 0}, {97, 2, 0, 9, 9, 9, 9, -1}, {99, 0, 9, 9, 9, 9, 9, -1}};
        for (int[] c : cases) {
            TwoTrolleys x = drink(c[0], c[1], c[2], c[3], c[4], c[5], c[6]);
            int before = x.coins();
            boolean sold = c[7] >= 0;
            String call = "a note for " + c[0] + " out of " + c[1] + " " + c[2] + " " + c[3] + " " + c[4] + " " + c[5] + " " + c[6];
            Check.due(x, call, x.sell(0, 100), sold ? 100 - c[0] : -1, sold ? 0 : 6);
            if (sold) {
                given(x, call, c[7], c[8], c[9], c[10], c[11], c[12]);
            }
            Check.due("coins() behind " + call, x.coins(), sold ? before - (100 - c[0]) : before);
            Check.due("notes behind " + call, x.size(15), sold ? 1 : 0);
        }
    }

    /** 0 ahead of any; a refused sale leaves what the latest other one gave. */
    private static void givenByTheLatest() {
        TwoTrolleys x = Check.flight(HEAD + ";drink d price 7;drink e price 10");
        given(x, "none", 0, 0, 0, 0, 0, 0);
        Check.due(x, "sell(0, 10), no change", x.sell(0, 10), -1, 6);
        given(x, "a refused one", 0, 0, 0, 0, 0, 0);
        fill(x, 9, 9);
        Check.due(x, "sell(0, 10)", x.sell(0, 10), 3, 0);
        given(x, "sell(0, 10)", 1, 1, 0, 0, 0, 0);
        x.sell(0, 5);
        x.sell(2, 5);
        x.sell(0, 3);
        x.sell(0, 50);
        given(x, "four refused ones", 1, 1, 0, 0, 0, 0);
        fill(x, 0, 0, 0, 0, 0, 0);
        given(x, "till()", 1, 1, 0, 0, 0, 0);
        Check.due(x, "sell(1, 10)", x.sell(1, 10), 0, 0);
        given(x, "sell(1, 10)", 0, 0, 0, 0, 0, 0);
    }

    /** v from 0 up to 199. */
    private static void changeBounds() {
        TwoTrolleys x = new TwoTrolleys();
        Check.due(x, "change(0) of an empty TILL", x.change(0), 1, 0);
        Check.due(x, "change(1) of an empty TILL", x.change(1), 0, 0);
        Check.due(x, "change(199) of an empty TILL", x.change(199), 0, 0);
        Check.due(x, "change(200)", x.change(200), -1, 2);
        Check.due(x, "change(-1)", x.change(-1), -1, 2);
        fill(x, 99, 0, 0, 0, 0, 2);
        Check.due(x, "change(199) by 2 of 50 and 99 of 1", x.change(199), 1, 0);
        Check.due(x, "change(198)", x.change(198), 1, 0);
        Check.due(x, "change(149)", x.change(149), 2, 0);
        Check.due(x, "change(100)", x.change(100), 2, 0);
        Check.due(x, "change(99)", x.change(99), 2, 0);
        Check.due(x, "change(49)", x.change(49), 1, 0);
        x.till(1, 98);
        Check.due(x, "change(199) with one less", x.change(199), 0, 0);
        Check.due(x, "change(198)", x.change(198), 1, 0);
        Check.due("it takes nothing", x.coins(), 198);
    }

    /** As many of a coin as are there, and no more; ways, not orders. */
    private static void changeByCoins() {
        for (int coin : COINS) {
            TwoTrolleys x = new TwoTrolleys();
            x.till(coin, 3);
            for (int many = 0; many <= 4 && many * coin <= 199; many++) {
                Check.due(x, many + " of " + coin, x.change(many * coin), many <= 3 ? 1 : 0, 0);
            }
        }
        TwoTrolleys x = new TwoTrolleys();
        fill(x, 2, 1, 1);
        int[] ways = {1, 1, 2, 1, 1, 1, 1, 2, 1, 1, 0};
        for (int v = 0; v < ways.length; v++) {
            Check.due(x, "change(" + v + ")", x.change(v), ways[v], 0);
        }
    }

    /** By ROWS, not by STEPS; NO CHOICE or NOTHING, once each ROW; only so far. */
    private static void led() {
        TwoTrolleys x = Check.flight("cabin rows 4 walk 0 serve 1;heat least 0 cools 0;kind a shape 1 hot 1;kind b shape 1 hot 1"
                + ";trolley tb back drawers 1 holds 8;load tb b many 2;block 2 to 4 seats 1 likes a 1;block 1 to 1 seats 2 likes a 1");
        for (int steps = 0; steps <= 4; steps++) {
            for (int i = 0; i < steps; i++) {
                Check.due("led(" + i + ") behind " + steps, x.led(i), 5 - steps + i);
            }
            Check.due("led(" + steps + ") throws", Check.ledThrows(x, steps), true);
            Check.due("led(-1) throws", Check.ledThrows(x, -1), true);
            x.step();
        }
        x.start(0);
        Check.due("led(0) throws from the beginning", Check.ledThrows(x, 0), true);
        TwoTrolleys y = Check.flight("cabin rows 40 walk 0 serve 1;heat least 0 cools 0;kind a shape 1 hot 1"
                + ";trolley tf front drawers 1 holds 8;block 1 to 40 seats 1 likes a 1");
        y.finish();
        Check.due("led(0)", y.led(0), 1);
        Check.due("led(39)", y.led(39), 40);
        Check.due("led(40) throws", Check.ledThrows(y, 40), true);
        Check.due("led(greatest) throws", Check.ledThrows(y, Integer.MAX_VALUE), true);
        Check.due("led(least) throws", Check.ledThrows(y, Integer.MIN_VALUE), true);
    }

    /** One LINE more of a sort counts there alone. */
    private static void sizes() {
        String head = HEAD + ";trolley tb back drawers 1 holds 8";
        String[] lines = {"", ";kind x shape 1 hot 1", "", ";load tf a many 9", ";block 1 to 2 seats 1 likes a 1", ";named x row 1 eats a",
            ";batch a at 1", ";belts 1 to 2", ";gap 1", ";past at 1 from 1 to 1", ";took a 1 of 1", ";drink x price 1"};
        int[] none = {2, 2, 2, 0, 0, 0, 0, 0, 0, 0, 0, 0};
        for (int line = 0; line < lines.length; line++) {
            TwoTrolleys x = Check.flight(head + lines[line]);
            for (int what = 0; what <= 15; what++) {
                int want = what < none.length ? none[what] : 0;
                Check.due("size(" + what + ") with" + lines[line], x.size(what), want + (what == line && !lines[line].isEmpty() ? 1 : 0));
            }
        }
    }

    /** MARKS, SEED, bytes, notes; and NONE for others, which is no refusal. */
    private static void sizeOthers() {
        TwoTrolleys x = drink(98, 9, 9);
        x.start(65536);
        x.feed(0, 0, 0, 0, 0);
        x.feed(0, 0, 0, 0, 0);
        for (int i = 1; i <= 4; i++) {
            x.mark();
            x.sell(0, 100);
            Check.due("size(12)", x.size(12), i);
            Check.due("size(15)", x.size(15), i);
        }
        x.mark();
        Check.due("size(12) with four", x.size(12), 4);
        Check.due("size(13)", x.size(13), 65536);
        Check.due("size(14)", x.size(14), 40);
        x.given(3);
        int[] others = {-1, 16, Integer.MIN_VALUE, Integer.MAX_VALUE};
        for (int what : others) {
            Check.due("size(" + what + ")", x.size(what), -1);
            Check.due("it sets no TROUBLE", x.trouble(), 2);
        }
        TwoTrolleys none = new TwoTrolleys();
        Check.due("size(16) of a new object", none.size(16), -1);
        Check.due("size(-1) of a new object", none.size(-1), -1);
        Check.due("trouble() of a new object", none.trouble(), 0);
    }

    /** Each number from 1 to 6, and 0 behind it. */
    private static void trouble() {
        TwoTrolleys x = drink(3);
        int[] seen = new int[7];
        x.mark();
        for (int i = 0; i < 3; i++) {
            x.mark();
        }
        seen[3] = x.mark() == -1 ? x.trouble() : -1;
        seen[1] = x.sits(3) == -1 ? x.trouble() : -1;
        seen[2] = x.given(3) == -1 ? x.trouble() : -1;
        seen[5] = x.met() == -1 ? x.trouble() : -1;
        seen[6] = x.served(1, 0) == -1 ? x.trouble() : -1;
        seen[4] = x.flight(0) == -1 ? x.trouble() : -1;
        for (int number = 1; number <= 6; number++) {
            Check.due("TROUBLE " + number, seen[number], number);
        }
        Check.due("it stays till another call", x.trouble(), 4);
        x.feed(0, 0, 0, 0, 0);
        x.coins();
        x.fault();
        x.where();
        x.size(20);
        Check.ledThrows(x, 9);
        Check.due("and through calls that aren't refused by a number", x.trouble(), 4);
        Check.due(x, "all(), not refused", x.all(), 0, 0);
    }
}
