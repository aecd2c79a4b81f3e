/** Promises 29 to 34: odds of a KIND running out, and what to load. */
public final class OddsTest {
    private static final String HEAD = "cabin rows 6 walk 5 serve 10;heat least 0 cools 0;kind c shape 1 hot 1;"
            + "kind v shape 1 hot 1;kind w shape 1 hot 1;trolley f front drawers 1 holds 8;trolley b back drawers 1 holds 8;";

    public static void main(String[] args) {
        withoutFlight();
        odds();
        tooMany();
        great();
        loads();
        unloaded();
        Check.end("OddsTest");
    }

    private static void withoutFlight() {
        TwoTrolleys x = new TwoTrolleys();
        Check.due(x, "out(1, 0, -1)", x.out(1, 0, -1), -1, 1);
        Check.due(x, "ways(1)", x.ways(1), -1, 1);
        Check.due(x, "enough(1, 0, -1)", x.enough(1, 0, -1), -1, 1);
        Check.due(x, "load(0, true)", x.load(0, true), -1, 1);
        Check.due(x, "spare(0)", x.spare(0), -1000, 1);
        Check.due(x, "unloaded()", x.unloaded(), -1, 1);
    }

    /** ROW 1: two with c 1, v 2; ROW 2: one that isn't named with c 3; ROW 3: nobody; ROW 4: named ones alone. */
    private static void odds() {
        TwoTrolleys x = Check.flight(HEAD + "block 1 to 1 seats 2 likes v 2,c 1;block 2 to 2 seats 2 likes c 3;"
                + "block 4 to 4 seats 1 likes c 5;block 5 to 6 seats 9 likes c 1;"
                + "named a row 2 eats v;named d row 4 eats v;named e row 4 eats v child");
        Check.due(x, "ways(1)", x.ways(1), 1, 0);
        Check.due(x, "ways(2)", x.ways(2), 9, 0);
        Check.due(x, "ways(3)", x.ways(3), 27, 0);
        Check.due(x, "ways(4)", x.ways(4), 27, 0);
        Check.due(x, "ways(5)", x.ways(5), 27, 0);
        Check.due(x, "ways(6), more than 10", x.ways(6), -1, 3);
        Check.due(x, "ways(7)", x.ways(7), -1, 1);
        Check.due(x, "ways(0)", x.ways(0), -1, 1);
        Check.due(x, "out(1, 0, 0)", x.out(1, 0, 0), 0, 0);
        Check.due(x, "out(2, 0, 0)", x.out(2, 0, 0), 5, 0);
        Check.due(x, "out(2, 0, 1)", x.out(2, 0, 1), 1, 0);
        Check.due(x, "out(2, 0, 2)", x.out(2, 0, 2), 0, 0);
        Check.due(x, "out(2, 1, 0)", x.out(2, 1, 0), 8, 0);
        Check.due(x, "out(2, 1, 1)", x.out(2, 1, 1), 4, 0);
        Check.due(x, "out(5, 0, 0)", x.out(5, 0, 0), 27, 0);
        Check.due(x, "out(5, 0, 1)", x.out(5, 0, 1), 15, 0);
        Check.due(x, "out(5, 0, 2)", x.out(5, 0, 2), 3, 0);
        Check.due(x, "out(5, 0, 3)", x.out(5, 0, 3), 0, 0);
        Check.due(x, "out(5, 0, 99)", x.out(5, 0, 99), 0, 0);
        Check.due(x, "out(5, 2, 0), nobody likes it", x.out(5, 2, 0), 0, 0);
        Check.due(x, "out(5, 0, 100)", x.out(5, 0, 100), -1, 2);
        Check.due(x, "out(5, 0, -1)", x.out(5, 0, -1), -1, 2);
        Check.due(x, "out(5, 3, 0)", x.out(5, 3, 0), -1, 1);
        Check.due(x, "out(7, 0, -1)", x.out(7, 0, -1), -1, 1);
        Check.due(x, "out(0, 0, 0)", x.out(0, 0, 0), -1, 1);
        Check.due(x, "out(6, 0, 0)", x.out(6, 0, 0), -1, 3);
        Check.due(x, "out(6, 0, 100)", x.out(6, 0, 100), -1, 2);
        // OUT of c at ROW 2 with 0, 1, 2: 5, 1, 0 of 9, that is 55.5 and 11.1 hundredths.
        Check.due(x, "enough(2, 0, 0)", x.enough(2, 0, 0), 2, 0);
        Check.due(x, "enough(2, 0, 11)", x.enough(2, 0, 11), 2, 0);
        Check.due(x, "enough(2, 0, 12)", x.enough(2, 0, 12), 1, 0);
        Check.due(x, "enough(2, 0, 55)", x.enough(2, 0, 55), 1, 0);
        Check.due(x, "enough(2, 0, 56)", x.enough(2, 0, 56), 0, 0);
        Check.due(x, "enough(1, 0, 0)", x.enough(1, 0, 0), 0, 0);
        Check.due(x, "enough(5, 0, 99)", x.enough(5, 0, 99), 1, 0);
        Check.due(x, "enough(5, 2, 0)", x.enough(5, 2, 0), 0, 0);
        Check.due(x, "enough(5, 0, 100)", x.enough(5, 0, 100), -1, 2);
        Check.due(x, "enough(5, 0, -1)", x.enough(5, 0, -1), -1, 2);
        Check.due(x, "enough(6, 0, 0)", x.enough(6, 0, 0), -1, 3);
        Check.due(x, "enough(6, 3, 0)", x.enough(6, 3, 0), -1, 1);
        Check.due(x, "enough(7, 0, 100)", x.enough(7, 0, 100), -1, 1);
    }

    private static void tooMany() {
        TwoTrolleys ten = Check.flight(HEAD + "block 1 to 2 seats 5 likes c 1,v 1");
        Check.due(ten, "ways(3) of ten", ten.ways(3), 1024, 0);
        Check.due(ten, "ways(6) of ten", ten.ways(6), 1024, 0);
        Check.due(ten, "out(3, 0, 9)", ten.out(3, 0, 9), 1, 0);
        Check.due(ten, "out(3, 0, 8)", ten.out(3, 0, 8), 11, 0);
        Check.due(ten, "out(3, 0, 10)", ten.out(3, 0, 10), 0, 0);
        Check.due(ten, "enough(3, 0, 0)", ten.enough(3, 0, 0), 10, 0);
        TwoTrolleys eleven = Check.flight(HEAD + "block 1 to 2 seats 5 likes c 1;block 3 to 3 seats 1 likes v 1");
        Check.due(eleven, "ways(3)", eleven.ways(3), 1, 0);
        Check.due(eleven, "ways(4) of eleven", eleven.ways(4), -1, 3);
        TwoTrolleys named = Check.flight(HEAD + "block 1 to 2 seats 6 likes c 1;named a row 1 eats c;named d row 2 eats c");
        Check.due(named, "named ones are not among them", named.ways(3), 1, 0);
    }

    private static void great() {
        TwoTrolleys x = Check.flight("cabin rows 3 walk 5 serve 10;heat least 0 cools 0;kind c shape 1 hot 1;"
                + "kind v shape 1 hot 1;kind w shape 1 hot 1;kind y shape 1 hot 1;trolley f front drawers 1 holds 8;"
                + "block 1 to 2 seats 5 likes c 9,v 9,w 9,y 9");
        Check.due(x, "36 to the tenth", x.ways(3), 3656158440062976L, 0);
        Check.due(x, "ten like it", x.out(3, 3, 9), 3486784401L, 0);
        Check.due(x, "one at least", x.out(3, 3, 0), 3656158440062976L - 205891132094649L, 0);
        Check.due(x, "enough(3, 3, 99)", x.enough(3, 3, 99), 0, 0);
        Check.due(x, "enough(3, 3, 0)", x.enough(3, 3, 0), 10, 0);
    }

    private static void loads() {
        TwoTrolleys x = Check.flight(HEAD + "block 1 to 2 seats 5 likes c 1;named a row 3 eats w;"
                + "took c 1 of 3;took c 999 of 999;took v 0 of 9;took c 3 of 11;load f c many 7;load b c many 5");
        Check.due(x, "load(0, false)", x.load(0, false), 3, 0);
        Check.due(x, "load(0, true)", x.load(0, true), 11, 0);
        Check.due(x, "load(1, false)", x.load(1, false), 0, 0);
        Check.due(x, "load(1, true)", x.load(1, true), 0, 0);
        Check.due(x, "load(2, true)", x.load(2, true), -1, 6);
        Check.due(x, "load(3, true)", x.load(3, true), -1, 1);
        Check.due(x, "load(-1, true)", x.load(-1, true), -1, 1);
        Check.due(x, "spare(0)", x.spare(0), 1, 0);
        Check.due(x, "spare(1)", x.spare(1), 0, 0);
        Check.due(x, "spare(2)", x.spare(2), -1000, 6);
        Check.due(x, "spare(3)", x.spare(3), -1000, 1);
        Check.due(x, "spare(-1)", x.spare(-1), -1000, 1);
        TwoTrolleys z = Check.flight(HEAD + "block 1 to 1 seats 5 likes c 1;took v 1 of 1;took w 0 of 1");
        Check.due("1 of 1", z.load(1, false), 5);
        Check.due("0 of 1", z.load(2, false), 0);
        TwoTrolleys y = Check.flight(HEAD + "block 1 to 6 seats 9 likes c 1;took v 1 of 54;took v 2 of 53");
        Check.due("54 of 54, upwards not needed", y.load(1, false), 1);
        Check.due("108 by 53, upwards", y.load(1, true), 3);
        Check.due("spare below 0", y.spare(1), -3);
    }

    private static void unloaded() {
        TwoTrolleys x = Check.flight(HEAD + "load b v many 1;named a row 1 eats c;named d row 2 eats v;"
                + "named e row 6 eats w;named g row 7 eats w;named h row 1 eats w child");
        Check.due(x, "unloaded()", x.unloaded(), 1 + 4 + 16, 0);
        TwoTrolleys y = Check.flight(HEAD + "load b v many 1;named a row 1 eats v");
        Check.due(y, "unloaded() of none", y.unloaded(), 0, 0);
        y.finish();
        Check.due(y, "by what was loaded", y.unloaded(), 0, 0);
    }
}
