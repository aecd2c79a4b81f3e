/** Bounds of promises 2 to 5: THE TAPE byte by byte, TOKENS, how much of THE TAPE is the text. */
public final class EdgeTokensTest {
    private static final String GOOD = "cabin rows 2 walk 0 serve 1;heat least 0 cools 0;kind c shape 1 hot 1;"
            + "trolley t front drawers 1 holds 8";

    public static void main(String[] args) {
        tapeIsFull();
        noneComes();
        everyByteOfAFeed();
        lengths();
        bytesBehindAWhole();
        bytesBehindAWord();
        bytesAtTheBeginning();
        words();
        wholes();
        blanks();
        signs();
        places();
        Check.end("EdgeTokensTest");
    }

    private static String blanks(int many) {
        return " ".repeat(many);
    }

    /** 900 bytes are a text; its very last byte counts, and one byte less is another text. */
    private static void tapeIsFull() {
        String text = GOOD + blanks(900 - GOOD.length() - 7) + ";gap 40";
        TwoTrolleys x = new TwoTrolleys();
        Check.feed(x, text);
        Check.due("size(14)", x.size(14), 900);
        Check.due(x, "flight(900)", x.flight(900), 1, 0);
        Check.due("its gap", x.size(8), 1);
        Check.due("THE TAPE is empty", x.size(14), 0);
        String bad = text.substring(0, 899) + "1";
        TwoTrolleys y = new TwoTrolleys();
        Check.feed(y, bad);
        Check.due(y, "a FAULT at the last WHOLE of 900", y.flight(900), -1, 4);
        Check.due("fault()", y.fault(), 4);
        Check.due("where()", y.where(), 898);
        Check.feed(y, bad);
        Check.due(y, "flight(899)", y.flight(899), 1, 0);
        Check.feed(y, text.substring(0, 899) + "!");
        Check.due("the last byte is no TOKEN", y.flight(900), -1);
        Check.due("where()", y.where(), 899);
        Check.feed(y, blanks(900));
        Check.due("blanks alone", y.flight(900), -1);
        Check.due("fault()", y.fault(), 1);
        Check.due("where(), the end", y.where(), 900);
    }

    /** What doesn't fit any more changes none of the 900. */
    private static void noneComes() {
        TwoTrolleys x = new TwoTrolleys();
        for (int i = 1; i <= 43; i++) {
            x.feed(0x20202020, 0x20202020, 0x20202020, 0x20202020, 0x20202020);
        }
        Check.due("feed() up to 880", x.feed(0x20202020, 0x20202020, 0x20202020, 0x20202020, 0x20202020), 880);
        Check.due("feed() up to 900", x.feed(0x20202020, 0x20202020, 0x20202020, 0x20202020, 0x20202021), 900);
        Check.due("feed() beyond", x.feed(-1, -1, -1, -1, -1), -1);
        Check.due("feed() beyond once more", x.feed(0, 0, 0, 0, 0), -1);
        Check.due("size(14)", x.size(14), 900);
        Check.due("flight(900)", x.flight(900), -1);
        Check.due("where() of the first that is no blank", x.where(), 899);
        Check.due("feed() behind that", x.feed(0, 0, 0, 0, 0), 20);
        Check.due("flight(0) empties THE TAPE", x.flight(0), -1);
        Check.due("size(14)", x.size(14), 0);
        Check.due("where()", x.where(), 0);
    }

    /** Of each number the highest byte first: the only byte that is no blank is found at its place. */
    private static void everyByteOfAFeed() {
        TwoTrolleys x = new TwoTrolleys();
        for (int at = 0; at < 20; at++) {
            int[] word = {0x20202020, 0x20202020, 0x20202020, 0x20202020, 0x20202020};
            int shift = 24 - 8 * (at % 4);
            word[at / 4] = word[at / 4] & ~(255 << shift) | 0xE9 << shift;
            x.feed(word[0], word[1], word[2], word[3], word[4]);
            Check.due(x, "byte " + at, x.flight(20), -1, 4);
            Check.due("where() of byte " + at, x.where(), at);
            x.feed(word[0], word[1], word[2], word[3], word[4]);
            Check.due(x, "not read: byte " + at, x.flight(at), -1, 4);
            Check.due("where() ahead of byte " + at, x.where(), at);
            Check.due("fault() ahead of byte " + at, x.fault(), 1);
        }
        x.feed(0x63616269, 0x6E20726F, 0x77732039, 0x39202020, 0x20202020);
        Check.due("cabin rows 99", x.flight(13), -1);
        Check.due("fault()", x.fault(), 4);
        Check.due("where()", x.where(), 11);
    }

    /** n from 0 up to what THE TAPE has; what is behind n goes unread. */
    private static void lengths() {
        TwoTrolleys x = new TwoTrolleys();
        Check.due(x, "flight(0) of an empty TAPE", x.flight(0), -1, 4);
        Check.due(x, "flight(1) of an empty TAPE", x.flight(1), -1, 2);
        Check.due("fault() is that of the text", x.fault(), 1);
        Check.due(x, "flight(-1)", x.flight(-1), -1, 2);
        Check.feed(x, GOOD + ";gap 9");
        int fed = x.size(14);
        Check.due(x, "flight of one more", x.flight(fed + 1), -1, 2);
        Check.due("it stays", x.size(14), fed);
        Check.due("fault() stays", x.fault(), 1);
        Check.due("where() is of the latest", x.where(), -1);
        Check.due(x, "flight of all, blanks behind", x.flight(fed), 1, 0);
        Check.due("gaps", x.size(8), 1);
        Check.feed(x, GOOD + ";gap 9");
        Check.due(x, "flight of less", x.flight(GOOD.length()), 1, 0);
        Check.due("no gaps", x.size(8), 0);
        for (int n = 0; n < GOOD.length(); n++) {
            TwoTrolleys y = new TwoTrolleys();
            Check.feed(y, GOOD);
            Check.due(y, "the first " + n, y.flight(n), -1, 4);
            Check.due("goes no further than " + n, y.where() <= n, true);
        }
    }

    /** Each byte behind the text of a FLIGHT that ends with a WHOLE: 8, of 8 .. 40. */
    private static void bytesBehindAWhole() {
        for (int b = 0; b < 256; b++) {
            String text = GOOD + (char) b;
            if (b == ' ') {
                Check.fine(text);
            } else if (b >= '0' && b <= '9') {
                Check.fault(text, 4, GOOD.length() - 1);
            } else if (b == ';') {
                Check.fault(text, 1, GOOD.length() + 1);
            } else {
                Check.fault(text, 1, GOOD.length());
            }
        }
    }

    /** Each byte behind a NAME's first letter: another letter makes another NAME, digits part from it. */
    private static void bytesBehindAWord() {
        String head = "kind c shape 1 hot 1;kind d";
        for (int b = 0; b < 256; b++) {
            String text = head + (char) b + "shape 1 hot 1;batch d at 999";
            if (b >= 'a' && b <= 'z') {
                // The NAME is told without a blank before shape: it goes on to its WORD's end.
                Check.fault(text, 1, head.length() + 7);
            } else if (b == ' ') {
                Check.fault(text, 4, text.length() - 3);
            } else {
                Check.fault(text, 1, head.length());
            }
        }
    }

    /** No single byte begins a LINE; none but blanks may stand ahead of one. */
    private static void bytesAtTheBeginning() {
        for (int b = 0; b < 256; b++) {
            Check.fault(String.valueOf((char) b), 1, b == ' ' ? 1 : 0);
            if (b == ' ') {
                Check.fine((char) b + GOOD);
            } else {
                Check.fault((char) b + GOOD, 1, 0);
            }
        }
    }

    /** WORDS of 1 and of 8 letters are some, of 9 and more are none. */
    private static void words() {
        String word = "";
        for (int letters = 1; letters <= 30; letters++) {
            word += (char) ('z' - letters % 26);
            String text = GOOD + ";kind " + word + " shape 1 hot 1;batch " + word + " at 300";
            if (letters <= 8) {
                Check.fine(text);
            } else {
                Check.fault(text, 1, GOOD.length() + 6);
            }
        }
        Check.fault("a".repeat(900), 1, 0);
        Check.fault("cabincabi", 1, 0);
        // Of eight letters the first and the last count.
        String head = GOOD + ";kind abcdefgh shape 1 hot 1;";
        Check.fine(head + "batch abcdefgh at 1");
        String[] others = {"abcdefgi", "bbcdefgh", "abcdefg", "bcdefgh", "hgfedcba"};
        for (String other : others) {
            Check.fault(head + "batch " + other + " at 1", 2, head.length() + 6);
            Check.fine(head + "kind " + other + " shape 1 hot 1;batch " + other + " at 1");
        }
        Check.fault(head + "kind abcdefgh", 3, head.length() + 5);
    }

    /** WHOLES of 1 and of 3 digits are some, of 4 and more are none, whatever they count. */
    private static void wholes() {
        Check.fine(GOOD + ";gap 1");
        Check.fine(GOOD + ";gap 01");
        Check.fine(GOOD + ";gap 001");
        Check.fault(GOOD + ";gap 0001", 1, GOOD.length() + 5);
        Check.fault(GOOD + ";gap 00001", 1, GOOD.length() + 5);
        Check.fault(GOOD + ";gap 4294967297", 1, GOOD.length() + 5);
        Check.fault(GOOD + ";gap 18446744073709551617", 1, GOOD.length() + 5);
        Check.fault(GOOD + ";gap 000", 4, GOOD.length() + 5);
        Check.fault(GOOD + ";gap 999", 4, GOOD.length() + 5);
        Check.fault(GOOD + ";gap 1000", 1, GOOD.length() + 5);
        Check.fault("0".repeat(900), 1, 0);
        Check.fault(GOOD + ";gap " + "0".repeat(600) + "1", 1, GOOD.length() + 5);
        TwoTrolleys x = Check.flight(GOOD + ";kind d shape 008 hot 09;kind e shape 3 hot 099");
        Check.due("hot 09", x.heat(1, 0), 9);
        Check.due("hot 099", x.heat(2, 0), 99);
    }

    /** Blanks part TOKENS and mean nothing else: none is needed where TOKENS part by themselves. */
    private static void blanks() {
        Check.fine(blanks(1) + GOOD.replace(" ", blanks(3)).replace(";", " ; ") + blanks(40));
        Check.fine("cabin rows2walk0serve1;heat least0cools0;kind c shape1hot1;trolley t front drawers1holds8;"
                + "block1to2seats3likes c4;belts0to9;gap2;past at0from1to2;drink d price9;took c1of2;batch c at3;"
                + "load t c many4;named n row1eats c child");
        Check.fault("ca bin rows 2", 1, 0);
        Check.fault("cabin ro ws 2", 1, 6);
        Check.fault("gap 1 2", 1, 6);
        Check.fault("gap 4 0", 1, 6);
        Check.fault("cabin rows2walk0serve1heat", 1, 22);
        Check.fault("kindc shape 1 hot 1", 1, 0);
        Check.fault("kind cshape 1 hot 1", 1, 12);
        Check.fault(GOOD + ";block 1 to 1 seats 1 likesc 1", 1, GOOD.length() + 22);
    }

    /** Single ones of ; and , alone, each where it must stand. */
    private static void signs() {
        String block = ";block 1 to 1 seats 1 likes c 1";
        Check.fine(GOOD + ";kind d shape 1 hot 1" + block + ",d 1");
        Check.fault(GOOD + ";kind d shape 1 hot 1" + block + ",,d 1", 1, GOOD.length() + 21 + 32);
        Check.fault(GOOD + ";kind d shape 1 hot 1" + block + ";d 1", 1, GOOD.length() + 21 + 32);
        Check.fault(GOOD + ";;gap 1", 1, GOOD.length() + 1);
        Check.fault(";" + GOOD, 1, 0);
        Check.fault("," + GOOD, 1, 0);
        Check.fault(GOOD + ",gap 1", 1, GOOD.length());
        Check.fault(GOOD + " gap 1", 1, GOOD.length() + 1);
        Check.fault(GOOD + ":gap 1", 1, GOOD.length());
        Check.fault(GOOD + block + ",", 1, GOOD.length() + 32);
        Check.fault(GOOD + block + ", ;gap 1", 1, GOOD.length() + 33);
    }

    /** where() tells a place as long as no other call that may be refused came. */
    private static void places() {
        TwoTrolleys x = new TwoTrolleys();
        Check.due("where() of a new object", x.where(), -1);
        Check.tell(x, "gap 0");
        Check.due("where()", x.where(), 4);
        x.feed(1, 1, 1, 1, 1);
        x.coins();
        x.size(3);
        x.fault();
        x.trouble();
        Check.ledThrows(x, 0);
        Check.due("where() once more", x.where(), 4);
        Check.due("change(0), not refused", x.change(0), 1);
        Check.due("where()", x.where(), -1);
        Check.due("fault() stays", x.fault(), 4);
        Check.tell(x, "gap 0");
        Check.due("the bytes that were there", x.fault(), 1);
        Check.due("their place", x.where(), 0);
        x.flight(99);
        Check.due("where() behind 2", x.where(), -1);
        Check.due("fault() behind 2", x.fault(), 1);
        Check.tell(x, GOOD);
        Check.due("fault() of a FLIGHT", x.fault(), 0);
        Check.due("where() of a FLIGHT", x.where(), -1);
        x.flight(-7);
        Check.due("fault() of a FLIGHT behind 2", x.fault(), 0);
    }
}
