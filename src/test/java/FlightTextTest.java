/** Promises 1 to 5: THE TAPE, a FLIGHT told by its text, and FAULTS. */
public final class FlightTextTest {
    private static final String K = "kind c shape 1 hot 1;";
    private static final String T = "trolley t front drawers 1 holds 8;";
    private static final String TAIL = ";cabin rows 2 walk 0 serve 1;heat least 0 cools 0;kind zz shape 1 hot 1;"
            + "trolley yy front drawers 1 holds 8";

    public static void main(String[] args) {
        newObject();
        tape();
        flightAnswers();
        form();
        reservedWords();
        untold();
        again();
        bounds();
        many();
        allNames();
        lacks();
        leftmost();
        anew();
        Check.end("FlightTextTest");
    }

    private static void newObject() {
        TwoTrolleys x = new TwoTrolleys();
        Check.due("fault() of a new object", x.fault(), 0);
        Check.due("where() of a new object", x.where(), -1);
        Check.due("trouble() of a new object", x.trouble(), 0);
        Check.due("coins() of a new object", x.coins(), 0);
        for (int what = 0; what <= 15; what++) {
            Check.due("size(" + what + ") of a new object", x.size(what), 0);
        }
        Check.due(x, "all() of a new object", x.all(), -1, 1);
        Check.due(x, "change(0) of a new object", x.change(0), 1, 0);
        Check.due(x, "change(1) of a new object", x.change(1), 0, 0);
    }

    private static void tape() {
        TwoTrolleys x = new TwoTrolleys();
        for (int i = 1; i <= 45; i++) {
            Check.due("feed " + i, x.feed(-1, 0, 7, Integer.MIN_VALUE, Integer.MAX_VALUE), 20 * i);
        }
        Check.due("feed beyond 900", x.feed(0, 0, 0, 0, 0), -1);
        Check.due("size(14) with a full tape", x.size(14), 900);
        Check.due("feed sets no trouble", x.trouble(), 0);
        x.given(3);
        x.feed(0, 0, 0, 0, 0);
        Check.due("feed leaves trouble", x.trouble(), 2);
        Check.due(x, "flight(901)", x.flight(901), -1, 2);
        Check.due("the tape stays behind 2", x.size(14), 900);
        Check.due(x, "flight(-1)", x.flight(-1), -1, 2);
        Check.due("fault() behind 2", x.fault(), 0);
        Check.due(x, "flight(900)", x.flight(900), -1, 4);
        Check.due("fault() of byte 255", x.fault(), 1);
        Check.due("where() of byte 255", x.where(), 0);
        Check.due("the tape is empty behind 4", x.size(14), 0);
        Check.due("feed anew", x.feed(0, 0, 0, 0, 0), 20);
        Check.due("where() behind feed", x.where(), 0);
        Check.due(x, "flight(21)", x.flight(21), -1, 2);
        Check.due("fault() stays behind 2", x.fault(), 1);
        Check.due("where() behind 2", x.where(), -1);
        longText();
    }

    /** A text of 900 bytes, blanks in it, is a FLIGHT. */
    private static void longText() {
        StringBuilder text = new StringBuilder(Check.BASE);
        while (text.length() < 890) {
            text.append(' ');
        }
        text.append(";gap 2 ;gap");
        text.setLength(897);
        TwoTrolleys x = new TwoTrolleys();
        Check.feed(x, text.toString());
        Check.due("a long text's bytes", x.size(14), 900);
        Check.due("a long text", x.flight(896), 2);
        Check.due("its gaps", x.size(8), 1);
    }

    private static void flightAnswers() {
        TwoTrolleys x = new TwoTrolleys();
        Check.due(x, "flight with two trolleys", Check.tell(x, Check.BASE), 2, 0);
        Check.due("fault() behind a FLIGHT", x.fault(), 0);
        Check.due("where() behind a FLIGHT", x.where(), -1);
        Check.due("the tape is empty then", x.size(14), 0);
        Check.due("rows", x.size(0), 4);
        x.start(77);
        x.finish();
        x.mark();
        x.till(5, 9);
        Check.due(x, "a faulty text", Check.tell(x, "cabin rows 9"), -1, 4);
        Check.due("the FLIGHT stays", x.size(0), 4);
        Check.due("its RUN stays", x.sum(5), 4);
        Check.due("its MARKS stay", x.size(12), 1);
        Check.due("where() is told by trouble", x.where(), -1);
        Check.due("fault() stays behind other calls", x.fault(), 1);
        Check.due("another FLIGHT", Check.tell(x,
                "cabin rows 7 walk 1 serve 1;heat least 1 cools 1;kind c shape 1 hot 1;trolley t back drawers 1 holds 8"), 1);
        Check.due("its rows", x.size(0), 7);
        Check.due("its KINDS", x.size(1), 1);
        Check.due("no MARKS", x.size(12), 0);
        Check.due("SEED 0", x.size(13), 0);
        Check.due("nothing served", x.sum(5), 0);
        Check.due("the TILL stays", x.coins(), 45);
        Check.due("the first bytes alone", prefixAlone(), 2);
    }

    private static int prefixAlone() {
        TwoTrolleys x = new TwoTrolleys();
        Check.feed(x, Check.BASE + "9!");
        return x.flight(Check.BASE.length());
    }

    private static void form() {
        Check.fault("", 1, 0);
        Check.fault("   ", 1, 3);
        Check.fault(";", 1, 0);
        Check.fault("!", 1, 0);
        Check.fault("  Cabin", 1, 2);
        Check.fault("7", 1, 0);
        Check.fault("cabin", 1, 5);
        Check.fault("cabin ", 1, 6);
        Check.fault("cabin row 3", 1, 6);
        Check.fault("cabin bows 3", 1, 6);
        Check.fault("cabin rowz 3", 1, 6);
        Check.fault("cabin walk 3", 1, 6);
        Check.fault("habin rows 3", 1, 0);
        Check.fault("cabim rows 3", 1, 0);
        Check.fault("cabin rows x", 1, 11);
        Check.fault("cabin rows ,", 1, 11);
        Check.fault("cabin rows 2 serve 1", 1, 13);
        Check.fault("cabin rows 2 walk 0 serve 1 2", 1, 28);
        Check.fault("cabin rows 2 walk 0 serve 1,", 1, 27);
        Check.fault("cabin rows 2 walk 0 serve 1;", 1, 28);
        Check.fault("cabin rows 2 walk 0 serve 1;;", 1, 28);
        Check.fault("cabin rows 2 walk 0 serve 1 heat", 1, 28);
        Check.fault("cabin rows 2\twalk", 1, 12);
        Check.fault("cabin rows 2 walk 0 serve 1#", 1, 27);
        Check.fault("cabin rows 2-", 1, 12);
        Check.fault("cabin rows 0040", 1, 11);
        Check.fault("cabin rows 1234567890123", 1, 11);
        Check.fault("kind abcdefghi shape 1", 1, 5);
        Check.fault("cabinrows 2", 1, 0);
        Check.fault("kind 5", 1, 5);
        Check.fault("kind cx" + (char) 233, 1, 7);
        Check.fault(K + "block 1 to 1 seats 1 likes c 1,", 1, 21 + 31);
        Check.fault(K + "block 1 to 1 seats 1 likes c 1 c", 1, 21 + 31);
        Check.fault(K + "block 1 to 1 seats 1 likes 1", 1, 21 + 27);
        Check.fault(K + "block 1 to 1 seats 1 likes c,", 1, 21 + 28);
        Check.fault(K + "named n row 1 eats c child child", 1, 21 + 27);
        Check.fault(K + "named n row 1 eats c kid", 1, 21 + 21);
        Check.fault("heat least 1 cools", 1, 18);
        Check.fault("belts 1 2", 1, 8);
        Check.fault("past 1", 1, 5);
        Check.fault("drink d 5", 1, 8);
        Check.fault("trolley t up", 1, 10);
        Check.fault("trolley t 1", 1, 10);
        Check.fault("trolley t frontx", 1, 10);
        Check.fine("cabin rows2walk0serve1;heat least0cools0;kind c shape1hot1;trolley t front drawers1holds8");
        Check.fine("  " + Check.BASE + "   ");
        Check.fine("gap1;gap2 ;gap40" + TAIL);
        Check.fine("kind aabcdefg shape 1 hot 1;kind babcdefg shape 1 hot 1;kind cabcdefg shape 1 hot 1;drink aabcdefh price 1;gap 1" + TAIL);
        Check.fine("kind abcdefgh shape 001 hot 099" + TAIL);
        Check.fine("kind front shape 1 hot 1;kind back shape 1 hot 1;kind to shape 1 hot 1;trolley back back drawers 1 holds 8"
                .replace("trolley back", "trolley rows") + ";cabin rows 2 walk 0 serve 1;heat least 0 cools 0"
                + ";block 1 to 1 seats 1 likes to 1 , front 2");
    }

    private static void reservedWords() {
        String[] reserved = {"cabin", "heat", "kind", "batch", "took", "trolley", "load", "block", "named", "belts",
            "gap", "past", "drink", "child"};
        for (String word : reserved) {
            Check.fault("kind " + word + " shape 1", 1, 5);
            Check.fault("drink " + word + " price 1", 1, 6);
            Check.fault("batch " + word + " at 1", 1, 6);
            Check.fault("load " + word, 1, 5);
        }
        Check.fault("child", 1, 0);
        Check.fault("word", 1, 0);
        String[] free = {"rows", "walk", "serve", "least", "cools", "shape", "hot", "at", "of", "front", "back",
            "drawers", "holds", "many", "to", "seats", "likes", "row", "eats", "from", "price", "children", "kin"};
        for (String word : free) {
            Check.fine("kind " + word + " shape 1 hot 1" + TAIL);
        }
    }

    private static void untold() {
        Check.fault("batch c at 1", 2, 6);
        Check.fault("took c 1 of 1", 2, 5);
        Check.fault(T + "load t c many 1", 2, 34 + 7);
        Check.fault(K + "load c c many 1", 2, 21 + 5);
        Check.fault(K + T + "load t t many 1", 2, 55 + 7);
        Check.fault(T + "block 1 to 1 seats 1 likes t 1", 2, 34 + 27);
        Check.fault(K + "block 1 to 1 seats 1 likes c 1,d 1", 2, 21 + 31);
        Check.fault("named n row 1 eats n", 2, 19);
        Check.fault("drink d price 1;batch d at 1", 2, 22);
        Check.fault("batch c at 1;" + K, 2, 6);
    }

    private static void again() {
        Check.fault(K + "kind c", 3, 26);
        Check.fault(K + "trolley c", 3, 29);
        Check.fault(K + "named c", 3, 27);
        Check.fault(K + "drink c", 3, 27);
        Check.fault("drink d price 1;drink d", 3, 22);
        Check.fault(T + "trolley t back", 3, 42);
        Check.fault(T + "trolley u front", 3, 44);
        Check.fault("trolley t back drawers 1 holds 8;trolley u back", 3, 43);
        Check.fault(K + "named n row 1 eats c;named n", 3, 48);
        Check.fault("cabin rows 2 walk 0 serve 1;cabin", 3, 28);
        Check.fault("heat least 1 cools 1;heat 7", 3, 21);
        Check.fault(K + "block 1 to 1 seats 1 likes c 1,c 1", 3, 52);
        Check.fault("kind a shape 1 hot 1;kind b shape 1 hot 1;kind c shape 1 hot 1;kind d shape 1 hot 1;"
                + "block 1 to 1 seats 1 likes a 1,b 1,c 1,d 1,b 1", 3, 84 + 43);
        Check.fault("kind a shape 1 hot 1;kind b shape 1 hot 1;kind c shape 1 hot 1;kind d shape 1 hot 1;"
                + "block 1 to 1 seats 1 likes a 1,b 1,c 1,d 1,e 1", 2, 84 + 43);
        Check.fine("kind c shape 1 hot 1;block 1 to 1 seats 1 likes c 1;block 1 to 1 seats 2 likes c 1" + TAIL);
    }

    /** least and most fit, one below and one above don't; the WHOLE stands behind head. */
    private static void bound(String head, int least, int most, String tail) {
        Check.fine(head + least + tail + TAIL);
        Check.fine(head + most + tail + TAIL);
        if (least > 0) {
            Check.fault(head + (least - 1) + tail, 4, head.length());
        }
        if (most < 999) {
            Check.fault(head + (most + 1) + tail, 4, head.length());
        }
    }

    private static void cabinBound(String head, int least, int most, String tail) {
        String rest = ";kind zz shape 1 hot 1;trolley yy front drawers 1 holds 8"
                + (head.startsWith("cabin") ? ";heat least 0 cools 0" : ";cabin rows 2 walk 0 serve 1");
        Check.fine(head + least + tail + rest);
        Check.fine(head + most + tail + rest);
        if (least > 0) {
            Check.fault(head + (least - 1) + tail, 4, head.length());
        }
        Check.fault(head + (most + 1) + tail, 4, head.length());
    }

    private static void bounds() {
        cabinBound("cabin rows ", 2, 40, " walk 1 serve 1");
        cabinBound("cabin rows 2 walk ", 0, 60, " serve 1");
        cabinBound("cabin rows 2 walk 0 serve ", 1, 60, "");
        cabinBound("heat least ", 0, 90, " cools 1");
        cabinBound("heat least 0 cools ", 0, 50, "");
        bound("kind c shape ", 1, 8, " hot 1");
        bound("kind c shape 1 hot ", 0, 99, "");
        bound(K + "batch c at ", 0, 300, "");
        bound(K + "took c ", 0, 999, " of 999");
        bound(K + "took c 0 of ", 1, 999, "");
        bound(K + "took c 7 of ", 7, 999, "");
        bound("trolley t back drawers ", 1, 14, " holds 8");
        bound("trolley t back drawers 1 holds ", 8, 40, "");
        bound("trolley t back drawers 1 holds 8;" + K + "load t c many ", 1, 99, "");
        bound(K + "block ", 1, 40, " to 40 seats 1 likes c 1");
        bound(K + "block 7 to ", 7, 40, " seats 1 likes c 1");
        bound(K + "block 1 to 1 seats ", 1, 9, " likes c 1");
        bound(K + "block 1 to 1 seats 1 likes c ", 1, 9, "");
        bound(K + "named n row ", 1, 40, " eats c");
        bound("belts ", 0, 300, " to 400");
        bound("belts 300 to ", 301, 400, "");
        bound("gap ", 1, 40, "");
        bound("past at ", 0, 300, " from 1 to 1");
        bound("past at 0 from ", 1, 40, " to 1");
        bound("past at 0 from 7 to ", 1, 40, "");
        bound("drink d price ", 1, 99, "");
    }

    private static void many() {
        most("kind %s shape 1 hot 1", "", 4);
        most("batch c at 1", K, 6);
        most("took c 1 of 1", K, 6);
        most("load t c many 1", K + T, 8);
        most("block 1 to 1 seats 1 likes c 1", K, 5);
        most("named %s row 1 eats c", K, 6);
        most("belts 1 to 2", "", 3);
        most("gap 1", "", 3);
        most("past at 1 from 1 to 1", "", 4);
        most("drink %s price 1", "", 4);
        Check.fault(T + "trolley u back drawers 1 holds 8;trolley u front", 5, 34 + 33);
    }

    private static void most(String line, String head, int room) {
        StringBuilder text = new StringBuilder(head);
        for (int i = 0; i < room; i++) {
            text.append(i == 0 ? "" : ";").append(line.replace("%s", "n" + (char) ('a' + i)));
        }
        Check.fault(text.toString(), 6, text.length());
        int place = text.length() + 1;
        String word = line.substring(0, line.indexOf(' '));
        Check.fault(text + ";" + word, 5, place);
        Check.fault(text + ";" + word + " ?", 5, place);
    }

    /** As many names as there can be: four KINDS, two trolleys, six named ones, four drinks. */
    private static void allNames() {
        StringBuilder text = new StringBuilder("cabin rows 2 walk 0 serve 1;heat least 0 cools 0;"
                + "trolley ta front drawers 1 holds 8;trolley tb back drawers 1 holds 8");
        for (char c = 'a'; c <= 'd'; c++) {
            text.append(";drink d").append(c).append(" price 1;kind k").append(c).append(" shape 1 hot 1");
        }
        for (char c = 'a'; c <= 'f'; c++) {
            text.append(";named n").append(c).append(" row 1 eats k").append((char) ('a' + c % 4));
        }
        Check.fine(text.toString());
        Check.fine(text + ";load tb kd many 9;batch kd at 1");
        Check.fault(text + ";load tb nf many 9", 2, text.length() + 9);
    }

    private static void lacks() {
        String c = "cabin rows 2 walk 0 serve 1";
        String h = "heat least 0 cools 0";
        String k = "kind zz shape 1 hot 1";
        String t = "trolley yy front drawers 1 holds 8";
        Check.fine(t + ";" + k + ";" + h + ";" + c);
        Check.fault(h + ";" + k + ";" + t, 6, 20 + 1 + 21 + 1 + 34);
        Check.fault(c + ";" + k + ";" + t, 6, 27 + 1 + 21 + 1 + 34);
        Check.fault(c + ";" + h + ";" + t, 6, 27 + 1 + 20 + 1 + 34);
        Check.fault(c + ";" + h + ";" + k, 6, 27 + 1 + 20 + 1 + 21);
        Check.fault(c + ";" + h + ";" + k + "  ", 6, 27 + 1 + 20 + 1 + 21 + 2);
    }

    /** Of several FAULTS the first from the left counts, whatever its number. */
    private static void leftmost() {
        Check.fault("cabin rows 99 !", 4, 11);
        Check.fault("batch c 999 !", 2, 6);
        Check.fault("cabin rows 2 ! 999", 1, 13);
        Check.fault("gap 1;gap 1;gap 1;gap 99", 5, 18);
        Check.fault("trolley t front drawers 15 holds 99", 4, 24);
        Check.fault(K + "named c row 99", 3, 27);
        Check.fault(K + "block 2 to 1 seats 0", 4, 32);
        Check.fault("took x 1000", 2, 5);
        Check.fault("batch abcdefghi", 1, 6);
    }

    /** What an object was told before leaves no trace, whether it was a FLIGHT or not. */
    private static void anew() {
        TwoTrolleys x = new TwoTrolleys();
        for (int i = 0; i < 5; i++) {
            Check.due(x, "a full text", Check.tell(x, Check.BASE + ";load f c many 9;block 1 to 4 seats 9 likes v 1,c 2;"
                    + "named n row 1 eats c child;belts 0 to 9;gap 1;gap 2;gap 3;drink d price 9"), 2, 0);
            Check.due("its gaps", x.size(8), 3);
            Check.due("its loads", x.loaded(0, 0), 9);
            Check.due("a faulty text", Check.tell(x, Check.BASE + ";gap 1;gap 2;load f v many 3;block 2 to 3 seats 3 likes c 9;?"), -1);
            Check.due("a bare text", Check.tell(x, "cabin rows 2 walk 0 serve 1;heat least 0 cools 0;kind d shape 1 hot 1;"
                    + "trolley f front drawers 1 holds 8;block 1 to 1 seats 1 likes d 1;named c row 1 eats d"), 1);
            Check.due("no gaps", x.size(8), 0);
            Check.due("no loads", x.loaded(0, 0), 0);
            Check.due("one seat", x.sits(1), 1);
            Check.due("one weight", x.likes(1, 0), 1);
            Check.due("nobody in ROW 2", x.sits(2), 0);
            Check.due("names are told anew", Check.tell(x, "batch c at 3"), -1);
            Check.due("the FAULT", x.fault(), 2);
            Check.due("an empty text", x.flight(0), -1);
            Check.due("its FAULT", x.fault(), 1);
        }
    }
}
