import java.nio.charset.StandardCharsets;

/** What the tests share: texts fed to an object, and answers held against those that are due. */
final class Check {
    static final String BASE = "cabin rows 4 walk 10 serve 20;heat least 60 cools 10;"
            + "kind c shape 3 hot 80;kind v shape 2 hot 70;"
            + "trolley f front drawers 2 holds 8;trolley b back drawers 1 holds 10";

    private static int checked = 0;
    private static int wrong = 0;

    private Check() {
    }

    static void due(String call, long got, long want) {
        checked++;
        if (got != want) {
            wrong++;
            System.out.println(call + " answered " + got + ", due is " + want);
        }
    }

    static void due(String call, boolean got, boolean want) {
        due(call, got ? 1 : 0, want ? 1 : 0);
    }

    /** An answer, and the TROUBLE behind it. */
    static void due(TwoTrolleys x, String call, long got, long want, int trouble) {
        due(call, got, want);
        due("trouble() behind " + call, x.trouble(), trouble);
    }

    static void due(TwoTrolleys x, String call, boolean got, boolean want, int trouble) {
        due(x, call, got ? 1 : 0, want ? 1 : 0, trouble);
    }

    /** The bytes of a text behind THE TAPE, with blanks up to a whole feed. */
    static void feed(TwoTrolleys x, String text) {
        byte[] bytes = text.getBytes(StandardCharsets.ISO_8859_1);
        for (int from = 0; from < bytes.length; from += 20) {
            int[] word = new int[5];
            for (int i = 0; i < 20; i++) {
                int b = from + i < bytes.length ? bytes[from + i] & 255 : ' ';
                word[i / 4] = word[i / 4] << 8 | b;
            }
            x.feed(word[0], word[1], word[2], word[3], word[4]);
        }
    }

    static int tell(TwoTrolleys x, String text) {
        feed(x, text);
        return x.flight(text.length());
    }

    /** A new object with a FLIGHT that must be without a FAULT. */
    static TwoTrolleys flight(String text) {
        TwoTrolleys x = new TwoTrolleys();
        if (tell(x, text) < 1) {
            due("fault() of " + text, x.fault(), 0);
            due("where() of " + text, x.where(), -1);
        }
        return x;
    }

    /** The text must have the FAULT at the place. */
    static void fault(String text, int fault, int place) {
        TwoTrolleys x = new TwoTrolleys();
        due(x, "flight of " + text, tell(x, text), -1, 4);
        due("fault() of " + text, x.fault(), fault);
        due("where() of " + text, x.where(), place);
    }

    static void fine(String text) {
        TwoTrolleys x = new TwoTrolleys();
        int answer = tell(x, text);
        due("flight of " + text, answer >= 1, true);
        due("fault() of " + text, x.fault(), 0);
    }

    static boolean ledThrows(TwoTrolleys x, int i) {
        try {
            x.led(i);
            return false;
        } catch (java.util.NoSuchElementException e) {
            return true;
        }
    }

    static void end(String name) {
        System.out.println(name + ": " + checked + " answers looked at, " + wrong + " wrong");
        if (wrong != 0 || checked == 0) {
            System.exit(1);
        }
    }
}
