/** Promises 35 to 39: who waits to get past, trays that go back into drawers. */
public final class PastTest {
    private static final String HEAD = "cabin rows 4 walk 10 serve 20;heat least 0 cools 0;kind c shape 3 hot 1;"
            + "kind v shape 2 hot 1;";

    public static void main(String[] args) {
        withoutFlight();
        on();
        waits();
        gaps();
        clear();
        fewest();
        fewestOfAll();
        Check.end("PastTest");
    }

    private static void withoutFlight() {
        TwoTrolleys x = new TwoTrolleys();
        Check.due(x, "waits(0)", x.waits(0), -1, 1);
        Check.due(x, "on(0, -1)", x.on(0, -1), -1, 1);
        Check.due(x, "clear(0)", x.clear(0), -1, 1);
        Check.due(x, "room(0, 0)", x.room(0, 0), -1, 1);
        Check.due(x, "fewest(0, -1, 0, 0, 0)", x.fewest(0, -1, 0, 0, 0), -1, 1);
    }

    /** Front: ROW 1 at 60 .. 100, ROW 2 at 110 .. 150. Back: ROW 4 at 60 .. 120, ROW 3 at 130 .. 150. */
    private static TwoTrolleys flightOfFour(String more) {
        return Check.flight(HEAD + "trolley b back drawers 2 holds 8;trolley f front drawers 1 holds 40;"
                + "load f c many 9;load b v many 9;block 1 to 2 seats 2 likes c 1;block 3 to 3 seats 1 likes v 1;"
                + "block 4 to 4 seats 3 likes v 1;belts 0 to 1" + more);
    }

    private static void on() {
        TwoTrolleys x = flightOfFour("");
        Check.due(x, "on(1, 70) ahead of all", x.on(1, 70), -2, 0);
        x.step();
        Check.due(x, "on(1, 59)", x.on(1, 59), -2, 0);
        Check.due(x, "on(1, 60)", x.on(1, 60), 1, 0);
        Check.due(x, "on(1, 99)", x.on(1, 99), 1, 0);
        Check.due(x, "on(1, 100), the last so far", x.on(1, 100), -2, 0);
        Check.due(x, "on(0, 60)", x.on(0, 60), -2, 0);
        x.finish();
        Check.due(x, "on(1, 100)", x.on(1, 100), 1, 0);
        Check.due(x, "on(1, 109)", x.on(1, 109), 1, 0);
        Check.due(x, "on(1, 110)", x.on(1, 110), 2, 0);
        Check.due(x, "on(1, 149)", x.on(1, 149), 2, 0);
        Check.due(x, "on(1, 150)", x.on(1, 150), -2, 0);
        Check.due(x, "on(0, 59)", x.on(0, 59), -2, 0);
        Check.due(x, "on(0, 129)", x.on(0, 129), 4, 0);
        Check.due(x, "on(0, 130)", x.on(0, 130), 3, 0);
        Check.due(x, "on(0, 149)", x.on(0, 149), 3, 0);
        Check.due(x, "on(0, 99999)", x.on(0, 99999), -2, 0);
        Check.due(x, "on(0, 100000)", x.on(0, 100000), -1, 2);
        Check.due(x, "on(0, -1)", x.on(0, -1), -1, 2);
        Check.due(x, "on(0, 0)", x.on(0, 0), -2, 0);
        Check.due(x, "on(2, 0)", x.on(2, 0), -1, 1);
        Check.due(x, "on(-1, -1)", x.on(-1, -1), -1, 1);
    }

    private static void waits() {
        TwoTrolleys x = flightOfFour(";past at 1 from 1 to 1;past at 1 from 4 to 3;past at 2 from 1 to 40;past at 0 from 1 to 4");
        Check.due(x, "waits(0) with nothing SERVED", x.waits(0), 0, 0);
        x.step();
        Check.due(x, "waits(0) by ROW 1 alone", x.waits(0), 40, 0);
        Check.due(x, "waits(1), the back one has not served", x.waits(1), 0, 0);
        x.step();
        Check.due(x, "waits(1) by ROW 4 alone", x.waits(1), 60, 0);
        x.finish();
        Check.due(x, "waits(0), up to ROW 2's BEGINNING", x.waits(0), 50, 0);
        Check.due(x, "waits(1), one behind the other", x.waits(1), 90, 0);
        Check.due(x, "waits(2), beyond the cabin too", x.waits(2), 30, 0);
        Check.due(x, "waits(3), ahead of all", x.waits(3), 0, 0);
        Check.due(x, "waits(4)", x.waits(4), -1, 1);
        Check.due(x, "waits(-1)", x.waits(-1), -1, 1);
        TwoTrolleys y = flightOfFour(";past at 1 from 2 to 3;past at 3 from 1 to 4;past at 2 from 3 to 3");
        y.finish();
        Check.due(y, "nobody is there yet", y.waits(0), 0, 0);
        Check.due(y, "all is over", y.waits(1), 0, 0);
        Check.due(y, "ROW 3 comes later", y.waits(2), 0, 0);
    }

    private static void gaps() {
        TwoTrolleys x = flightOfFour(";past at 1 from 1 to 4;gap 4;gap 1");
        x.finish();
        Check.due(x, "both on gaps", x.waits(0), 0, 0);
        TwoTrolleys y = flightOfFour(";past at 2 from 4 to 1;gap 2;gap 40");
        y.finish();
        Check.due(y, "ROW 2 is a gap, 4 and 3 are none", y.waits(0), 30, 0);
        TwoTrolleys z = flightOfFour(";past at 1 from 4 to 1;gap 2;gap 3");
        z.finish();
        Check.due(z, "ROW 4 up to 130", z.waits(0), 70, 0);
    }

    private static void clear() {
        TwoTrolleys x = flightOfFour("");
        Check.due(x, "clear(0) of nothing", x.clear(0), 0, 0);
        Check.due(x, "room(0, 0) of nothing", x.room(0, 0), 8, 0);
        Check.due(x, "room(1, 0) of nothing", x.room(1, 0), 40, 0);
        x.finish();
        // 3 3 3 3 2 2 2 2: into two drawers of 8 go 3 3, 3 3, 2, 2.
        Check.due(x, "clear(0)", x.clear(0), 6, 0);
        Check.due(x, "room(0, 0)", x.room(0, 0), 0, 0);
        Check.due(x, "room(0, 1)", x.room(0, 1), 0, 0);
        Check.due(x, "clear(1), all of them", x.clear(1), 8, 0);
        Check.due(x, "room(1, 0)", x.room(1, 0), 20, 0);
        Check.due(x, "room(0, 0) of the other trolley", x.room(0, 0), 0, 0);
        Check.due(x, "room(0, 2)", x.room(0, 2), -1, 1);
        Check.due(x, "room(1, 1)", x.room(1, 1), -1, 1);
        Check.due(x, "room(0, -1)", x.room(0, -1), -1, 1);
        Check.due(x, "room(2, 0)", x.room(2, 0), -1, 1);
        Check.due(x, "clear(2)", x.clear(2), -1, 1);
        Check.due(x, "clear(-1)", x.clear(-1), -1, 1);
        // The first that won't go in ends it, though a later one would: 3 3, 3 and 2 of ROWS 1 and 2, 3 won't.
        TwoTrolleys y = Check.flight(HEAD + "trolley f front drawers 1 holds 9;load f c many 9;load f v many 9;"
                + "block 1 to 1 seats 2 likes c 1;block 2 to 2 seats 1 likes c 1;block 3 to 3 seats 1 likes v 1");
        y.finish();
        Check.due(y, "clear(0), three of 3 and none of 2", y.clear(0), 3, 0);
        TwoTrolleys z = Check.flight(HEAD + "trolley f front drawers 1 holds 10;load f c many 9;load f v many 9;"
                + "block 1 to 1 seats 2 likes c 1;block 2 to 2 seats 2 likes c 1;block 3 to 3 seats 1 likes v 1;"
                + "named n row 1 eats v");
        z.finish();
        // ROW 1 is c and v, KIND by KIND: 3 2; ROW 2: 3 and 3, which won't; a v of ROW 3 would.
        Check.due(z, "clear(0) ends at the first", z.clear(0), 3, 0);
        Check.due(z, "room(0, 0) behind it", z.room(0, 0), 2, 0);
    }

    private static void fewest() {
        TwoTrolleys x = Check.flight("cabin rows 4 walk 10 serve 20;heat least 0 cools 0;kind a shape 8 hot 1;"
                + "kind b shape 5 hot 1;kind c shape 3 hot 1;trolley f front drawers 1 holds 8;trolley t back drawers 14 holds 10");
        Check.due(x, "fewest of none", x.fewest(0, 0, 0, 0, 0), 0, 0);
        Check.due(x, "fewest(0, 1, 0, 0, 0)", x.fewest(0, 1, 0, 0, 0), 1, 0);
        Check.due(x, "fewest(0, 24, 0, 0, 0), more than it has", x.fewest(0, 24, 0, 0, 0), 24, 0);
        Check.due(x, "fewest(0, 0, 2, 2, 0), not first come", x.fewest(0, 0, 2, 2, 0), 2, 0);
        Check.due(x, "fewest(0, 0, 12, 12, 0)", x.fewest(0, 0, 12, 12, 0), 12, 0);
        Check.due(x, "fewest(1, 0, 4, 3, 0)", x.fewest(1, 0, 4, 3, 0), 3, 0);
        Check.due(x, "fewest(1, 0, 3, 3, 0)", x.fewest(1, 0, 3, 3, 0), 3, 0);
        Check.due(x, "fewest(1, 8, 8, 8, 0)", x.fewest(1, 8, 8, 8, 0), 15, 0);
        Check.due(x, "fewest of a KIND there isn't", x.fewest(0, 0, 0, 0, 1), -1, 2);
        Check.due(x, "fewest below 0", x.fewest(0, 0, -1, 0, 0), -1, 2);
        Check.due(x, "fewest below 0 of a KIND there isn't", x.fewest(0, 0, 0, 0, -1), -1, 2);
        Check.due(x, "fewest with 25", x.fewest(0, 8, 8, 9, 0), -1, 3);
        Check.due(x, "fewest with very many", x.fewest(0, Integer.MAX_VALUE, Integer.MAX_VALUE, 2, 0), -1, 3);
        Check.due(x, "fewest with 25 and below 0", x.fewest(0, 26, -1, 0, 0), -1, 2);
        Check.due(x, "fewest(2, ..)", x.fewest(2, -1, 0, 0, 0), -1, 1);
        Check.due(x, "fewest(-1, ..)", x.fewest(-1, 25, 0, 0, 0), -1, 1);
        TwoTrolleys y = Check.flight("cabin rows 4 walk 10 serve 20;heat least 0 cools 0;kind a shape 7 hot 1;"
                + "kind b shape 5 hot 1;kind c shape 3 hot 1;kind d shape 2 hot 1;trolley f front drawers 1 holds 17");
        Check.due(y, "25 with the last KIND", y.fewest(0, 8, 8, 8, 1), -1, 3);
        Check.due(y, "six of each", y.fewest(0, 6, 6, 6, 6), 6, 0);
        Check.due(y, "six of each but one", y.fewest(0, 6, 6, 6, 5), 6, 0);
        StringBuilder kinds = new StringBuilder("cabin rows 4 walk 10 serve 20;heat least 0 cools 0;trolley f front drawers 1 holds 8");
        for (int many = 1; many <= 4; many++) {
            kinds.append(";kind k").append((char) ('a' + many)).append(" shape 8 hot 1");
            TwoTrolleys z = Check.flight(kinds.toString());
            Check.due(z, "KIND 0 of " + many, z.fewest(0, 1, 0, 0, 0), 1, 0);
            Check.due(z, "KIND 1 of " + many, z.fewest(0, 0, 1, 0, 0), many > 1 ? 1 : -1, many > 1 ? 0 : 2);
            Check.due(z, "KIND 2 of " + many, z.fewest(0, 0, 0, 1, 0), many > 2 ? 1 : -1, many > 2 ? 0 : 2);
            Check.due(z, "KIND 3 of " + many, z.fewest(0, 0, 0, 0, 1), many > 3 ? 1 : -1, many > 3 ? 0 : 2);
        }
    }

    /** Against all ways to put few trays into drawers. */
    private static void fewestOfAll() {
        for (int holds = 8; holds <= 13; holds++) {
            int[] shapes = {3 + holds % 3, 4, 5 + holds % 2, 7};
            TwoTrolleys x = Check.flight("cabin rows 4 walk 10 serve 20;heat least 0 cools 0;kind a shape " + shapes[0]
                    + " hot 1;kind b shape " + shapes[1] + " hot 1;kind c shape " + shapes[2] + " hot 1;kind d shape "
                    + shapes[3] + " hot 1;trolley f front drawers 1 holds " + holds);
            for (int many = 0; many < 81; many++) {
                int[] trays = {many % 3, many / 3 % 3, many / 9 % 3, many / 27};
                int want = best(trays, shapes, new int[9], 0, holds);
                Check.due("fewest of " + many + " holds " + holds, x.fewest(0, trays[0], trays[1], trays[2], trays[3]), want);
            }
        }
    }

    private static int best(int[] trays, int[] shapes, int[] rooms, int used, int holds) {
        int kind = 0;
        while (kind < 4 && trays[kind] == 0) {
            kind++;
        }
        if (kind == 4) {
            return used;
        }
        trays[kind]--;
        int least = 99;
        for (int i = 0; i <= used && i < rooms.length; i++) {
            int before = rooms[i];
            int room = i == used ? holds : before;
            if (room >= shapes[kind]) {
                rooms[i] = room - shapes[kind];
                least = Math.min(least, best(trays, shapes, rooms, Math.max(used, i + 1), holds));
                rooms[i] = before;
            }
        }
        trays[kind]++;
        return least;
    }
}
