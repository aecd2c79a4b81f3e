/** Promises 6 to 10: who sits where, what is liked, what is loaded. */
public final class CabinTest {
    public static void main(String[] args) {
        withoutFlight();
        sits();
        likes();
        loaded();
        fitsIn();
        Check.end("CabinTest");
    }

    private static void withoutFlight() {
        TwoTrolleys x = new TwoTrolleys();
        Check.due(x, "sits(1)", x.sits(1), -1, 1);
        Check.due(x, "all()", x.all(), -1, 1);
        Check.due(x, "likes(1, 0)", x.likes(1, 0), -1, 1);
        Check.due(x, "loaded(0, 0)", x.loaded(0, 0), -1, 1);
        Check.due(x, "fitsIn(0)", x.fitsIn(0), -1, 1);
    }

    private static void sits() {
        TwoTrolleys x = Check.flight(Check.BASE + ";block 1 to 2 seats 2 likes c 1;block 2 to 40 seats 5 likes v 3;"
                + "block 4 to 4 seats 1 likes v 3;named a row 4 eats c;named d row 4 eats v child;named e row 5 eats c");
        Check.due(x, "sits(0)", x.sits(0), -1, 1);
        Check.due(x, "sits(1)", x.sits(1), 2, 0);
        Check.due(x, "sits(2), told twice", x.sits(2), 5, 0);
        Check.due(x, "sits(3)", x.sits(3), 5, 0);
        Check.due(x, "sits(4), more named than seats", x.sits(4), 2, 0);
        Check.due(x, "sits(5), beyond the cabin", x.sits(5), -1, 1);
        Check.due(x, "sits(least)", x.sits(Integer.MIN_VALUE), -1, 1);
        Check.due(x, "all()", x.all(), 14, 0);
        TwoTrolleys empty = Check.flight(Check.BASE + ";named a row 2 eats c");
        Check.due(empty, "sits without a block", empty.sits(1), 0, 0);
        Check.due(empty, "sits of a named one without a block", empty.sits(2), 1, 0);
        Check.due(empty, "all() with one", empty.all(), 1, 0);
    }

    private static void likes() {
        TwoTrolleys x = Check.flight(Check.BASE + ";block 1 to 2 seats 2 likes v 7;block 2 to 3 seats 5 likes v 3,c 9");
        Check.due(x, "likes(1, 0)", x.likes(1, 0), 0, 0);
        Check.due(x, "likes(1, 1)", x.likes(1, 1), 7, 0);
        Check.due(x, "likes(2, 0)", x.likes(2, 0), 9, 0);
        Check.due(x, "likes(2, 1)", x.likes(2, 1), 3, 0);
        Check.due(x, "likes(4, 1)", x.likes(4, 1), 0, 0);
        Check.due(x, "likes(4, 2)", x.likes(4, 2), -1, 1);
        Check.due(x, "likes(5, 1)", x.likes(5, 1), -1, 1);
        Check.due(x, "likes(0, 1)", x.likes(0, 1), -1, 1);
        Check.due(x, "likes(1, -1)", x.likes(1, -1), -1, 1);
    }

    private static void loaded() {
        TwoTrolleys x = Check.flight(Check.BASE + ";load b v many 99;load f v many 4;load b v many 98;load b c many 1");
        Check.due(x, "loaded(0, 0)", x.loaded(0, 0), 0, 0);
        Check.due(x, "loaded(0, 1)", x.loaded(0, 1), 4, 0);
        Check.due(x, "loaded(1, 0)", x.loaded(1, 0), 1, 0);
        Check.due(x, "loaded(1, 1), two LINES", x.loaded(1, 1), 197, 0);
        Check.due(x, "loaded(2, 0)", x.loaded(2, 0), -1, 1);
        Check.due(x, "loaded(-1, 0)", x.loaded(-1, 0), -1, 1);
        Check.due(x, "loaded(0, 2)", x.loaded(0, 2), -1, 1);
        Check.due(x, "loaded(0, -1)", x.loaded(0, -1), -1, 1);
        x.finish();
        Check.due(x, "loaded(1, 1) behind a RUN", x.loaded(1, 1), 197, 0);
    }

    private static void fitsIn() {
        // Two drawers of 8: c takes 3, v takes 2.
        fits("", 1);
        fits(";load f c many 4", 1);
        fits(";load f c many 5", 0);
        fits(";load f c many 4;load f v many 2", 1);
        fits(";load f c many 4;load f v many 3", 0);
        fits(";load f v many 8", 1);
        fits(";load f v many 9", 0);
        // First come, KIND by KIND: 3 3 | 3 and 2 | 2 2, whatever the order of the LINES.
        fits(";load f v many 3;load f c many 3", 1);
        fits(";load f v many 4;load f c many 3", 0);
        TwoTrolleys x = Check.flight(Check.BASE + ";load f c many 99;load b v many 5");
        Check.due(x, "fitsIn(1)", x.fitsIn(1), 1, 0);
        Check.due(x, "fitsIn(2)", x.fitsIn(2), -1, 1);
        Check.due(x, "fitsIn(-1)", x.fitsIn(-1), -1, 1);
        // First come is not best: 3 and 5 twice in two drawers of 8 would do, but both 3 go into the first.
        TwoTrolleys y = Check.flight("cabin rows 2 walk 0 serve 1;heat least 0 cools 0;kind v shape 3 hot 1;"
                + "kind c shape 5 hot 1;trolley t front drawers 2 holds 8;load t v many 2;load t c many 2");
        Check.due(y, "first come is not best", y.fitsIn(0), 0, 0);
    }

    private static void fits(String loads, int want) {
        TwoTrolleys x = Check.flight(Check.BASE + loads);
        Check.due(x, "fitsIn(0) of " + loads, x.fitsIn(0), want, 0);
    }
}
