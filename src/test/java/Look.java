/** All that can be seen of an object with a small FLIGHT (four ROWS, two KINDS, two trolleys at most). */
final class Look {
    private static final int[] COINS = {1, 2, 5, 10, 20, 50};

    private Look() {
    }

    /** About 150 calls; of what is seen nothing changes but TROUBLE. */
    static String at(TwoTrolleys x) {
        StringBuilder seen = new StringBuilder();
        see(seen, "tape", x.size(14));
        see(seen, "fault", x.fault());
        flight(seen, x);
        run(seen, x);
        till(seen, x);
        return seen.toString();
    }

    /** The same, but THE TAPE and the FAULT of the latest text. */
    static String withoutText(TwoTrolleys x) {
        StringBuilder seen = new StringBuilder();
        flight(seen, x);
        run(seen, x);
        till(seen, x);
        return seen.toString();
    }

    private static void see(StringBuilder seen, String name, long answer) {
        seen.append(name).append(' ').append(answer).append(';');
    }

    private static void flight(StringBuilder seen, TwoTrolleys x) {
        for (int what = 0; what <= 11; what++) {
            see(seen, "size " + what, x.size(what));
        }
        see(seen, "all", x.all());
        for (int row = 1; row <= 4; row++) {
            see(seen, "sits " + row, x.sits(row));
            see(seen, "likes " + row, 100 * x.likes(row, 0) + x.likes(row, 1));
        }
        for (int trolley = 0; trolley < 2; trolley++) {
            see(seen, "loaded " + trolley, 100 * x.loaded(trolley, 0) + x.loaded(trolley, 1));
            see(seen, "fitsIn " + trolley, x.fitsIn(trolley));
        }
        for (int kind = 0; kind < 2; kind++) {
            see(seen, "heat " + kind, x.heat(kind, 20));
            see(seen, "cold " + kind, x.cold(kind, 0));
            see(seen, "load " + kind, x.load(kind, true));
            see(seen, "spare " + kind, x.spare(kind));
        }
        see(seen, "meets", 1000 * x.meets(1) + x.soonest());
        see(seen, "lacking", 1000 * x.lacking(1) + x.fairest());
        see(seen, "out", x.out(3, 0, 1) + 1000 * x.ways(3) + 1000000 * x.enough(3, 0, 9));
        see(seen, "unloaded", x.unloaded());
        see(seen, "fewest", x.fewest(0, 4, 0, 0, 0));
    }

    private static void run(StringBuilder seen, TwoTrolleys x) {
        see(seen, "MARKS", x.size(12));
        see(seen, "SEED", x.size(13));
        for (int row = 1; row <= 4; row++) {
            for (int what = 0; what <= 6; what++) {
                see(seen, "served " + row + " " + what, x.served(row, what));
            }
            see(seen, "trays " + row, 100 * x.trays(row, 0) + x.trays(row, 1));
        }
        for (int what = 0; what <= 5; what++) {
            see(seen, "sum " + what, x.sum(what));
        }
        for (int trolley = 0; trolley < 2; trolley++) {
            see(seen, "seconds " + trolley, x.seconds(trolley));
            see(seen, "left " + trolley, 100 * x.left(trolley, 0) + x.left(trolley, 1));
            see(seen, "on " + trolley, x.on(trolley, 30));
            see(seen, "clear " + trolley, x.clear(trolley));
            see(seen, "room " + trolley, x.room(trolley, 0));
        }
        see(seen, "got", 10 * x.got(0) + x.got(1));
        see(seen, "met", x.met());
        see(seen, "waits", x.waits(0));
        see(seen, "led", Check.ledThrows(x, 0) ? -1 : x.led(0));
    }

    private static void till(StringBuilder seen, TwoTrolleys x) {
        see(seen, "notes", x.size(15));
        see(seen, "coins", x.coins());
        see(seen, "change", x.change(30));
        for (int coin : COINS) {
            see(seen, "given " + coin, x.given(coin));
        }
    }
}
