/** Promises 24 to 28: where the trolleys had best meet. */
public final class MeetingTest {
    private static final String HEAD = "cabin rows 4 walk 5 serve 10;heat least 0 cools 0;kind c shape 1 hot 1;kind v shape 1 hot 1;";
    private static final String PEOPLE = ";block 1 to 1 seats 2 likes c 1;block 3 to 3 seats 1 likes c 1;"
            + "block 4 to 4 seats 4 likes v 1;named n row 3 eats c;named m row 3 eats v";

    public static void main(String[] args) {
        withoutFlight();
        twoTrolleys();
        oneTrolley();
        ties();
        met();
        Check.end("MeetingTest");
    }

    private static void withoutFlight() {
        TwoTrolleys x = new TwoTrolleys();
        Check.due(x, "meets(-1)", x.meets(-1), -1, 1);
        Check.due(x, "meets(0)", x.meets(0), -1, 1);
        Check.due(x, "soonest()", x.soonest(), -1, 1);
        Check.due(x, "lacking(0)", x.lacking(0), -1, 1);
        Check.due(x, "lacking(-1)", x.lacking(-1), -1, 1);
        Check.due(x, "fairest()", x.fairest(), -1, 1);
        Check.due(x, "met()", x.met(), -1, 1);
    }

    /** Those of the ROWS: 2, 0, 2 (two named ones, one seat), 4. */
    private static void twoTrolleys() {
        TwoTrolleys x = Check.flight(HEAD + "trolley b back drawers 1 holds 8;trolley f front drawers 1 holds 8;"
                + "load b c many 3;load b v many 1;load f v many 1" + PEOPLE + ";belts 0 to 50");
        int[] meets = {95, 70, 65, 50, 95};
        int[] lacking = {4, 3, 3, 3, 7};
        for (int x0 = 0; x0 <= 4; x0++) {
            Check.due(x, "meets(" + x0 + ")", x.meets(x0), meets[x0], 0);
            Check.due(x, "lacking(" + x0 + ")", x.lacking(x0), lacking[x0], 0);
        }
        Check.due(x, "meets(-1)", x.meets(-1), -1, 2);
        Check.due(x, "meets(5)", x.meets(5), -1, 2);
        Check.due(x, "lacking(-1)", x.lacking(-1), -1, 2);
        Check.due(x, "lacking(5)", x.lacking(5), -1, 2);
        Check.due(x, "soonest()", x.soonest(), 3, 0);
        Check.due(x, "fairest()", x.fairest(), 1, 0);
        x.finish();
        Check.due(x, "lacking(1) by what was loaded, not left", x.lacking(1), 3, 0);
        Check.due(x, "meets(1) behind a RUN", x.meets(1), 70, 0);
    }

    private static void oneTrolley() {
        String[] ends = {"front", "back"};
        for (String end : ends) {
            TwoTrolleys x = Check.flight(HEAD + "trolley t " + end + " drawers 1 holds 8;load t c many 5" + PEOPLE);
            for (int x0 = 0; x0 <= 4; x0++) {
                Check.due(x, end + " meets(" + x0 + ")", x.meets(x0), 95, 0);
                Check.due(x, end + " lacking(" + x0 + ")", x.lacking(x0), 3, 0);
            }
            Check.due(x, end + " meets(5)", x.meets(5), -1, 2);
            Check.due(x, end + " soonest()", x.soonest(), 0, 0);
            Check.due(x, end + " fairest()", x.fairest(), 0, 0);
        }
    }

    private static void ties() {
        // Nobody sits: 3 walks for one, 1 for each in the middle.
        TwoTrolleys x = Check.flight(HEAD + "trolley b back drawers 1 holds 8;trolley f front drawers 1 holds 8");
        Check.due("meets(0)", x.meets(0), 15);
        Check.due("meets(1)", x.meets(1), 10);
        Check.due("meets(2)", x.meets(2), 5);
        Check.due("soonest()", x.soonest(), 2);
        Check.due("fairest(), the first of like ones", x.fairest(), 0);
        TwoTrolleys y = Check.flight("cabin rows 3 walk 0 serve 10;heat least 0 cools 0;kind c shape 1 hot 1;"
                + "trolley b back drawers 1 holds 8;trolley f front drawers 1 holds 8;block 2 to 2 seats 1 likes c 1");
        Check.due("soonest(), the first of like ones", y.soonest(), 0);
    }

    private static void met() {
        TwoTrolleys x = Check.flight(HEAD + "trolley b back drawers 1 holds 8;trolley f front drawers 1 holds 8;"
                + "load b c many 9;load f c many 9" + PEOPLE);
        Check.due(x, "met() at the beginning", x.met(), -1, 5);
        x.step();
        x.step();
        x.step();
        Check.due(x, "met() ahead of the last", x.met(), -1, 5);
        x.step();
        Check.due(x, "met()", x.met(), 3, 0);
        x.start(0);
        Check.due(x, "met() anew", x.met(), -1, 5);
        TwoTrolleys front = Check.flight(HEAD + "trolley f front drawers 1 holds 8");
        Check.due(front, "met() of a front one alone", front.met(), -1, 5);
        front.finish();
        Check.due(front, "met() of a front one alone, over", front.met(), 4, 0);
        TwoTrolleys back = Check.flight(HEAD + "trolley b back drawers 1 holds 8");
        Check.due(back, "met() of a back one alone", back.met(), -1, 1);
        back.finish();
        Check.due(back, "met() of a back one alone, over", back.met(), -1, 1);
    }
}
