import java.util.NoSuchElementException;
import java.util.Random;

/** No call throws by itself, whatever the arguments and the state; what is refused says why. */
public final class RobustTest {
    private static final String[] WORDS = {"cabin", "rows", "walk", "serve", "heat", "least", "cools", "kind", "shape",
        "hot", "batch", "at", "took", "of", "trolley", "front", "back", "drawers", "holds", "load", "many", "block",
        "to", "seats", "likes", "named", "row", "eats", "child", "belts", "gap", "past", "from", "drink", "price",
        ";", ",", "0", "1", "2", "5", "8", "9", "40", "99", "300", "999", "1000", "abcdefghi", "a", "c", "d", "?"};
    private static final int[] EDGES = {Integer.MIN_VALUE, Integer.MAX_VALUE, -2, -1, 0, 1, 2, 3, 4, 5, 6, 7, 10, 20, 24,
        25, 39, 40, 41, 50, 98, 99, 100, 199, 200, 899, 900, 901, 999, 1000, 65536, 65537, 99999, 100000, 1 << 30};

    private static final Random RANDOM = new Random(20261118);
    private static long thrown = 0;

    public static void main(String[] args) {
        for (int i = 0; i < 3000; i++) {
            oneObject();
        }
        Check.due("calls that threw", thrown, 0);
        Check.end("RobustTest");
    }

    private static int number() {
        return RANDOM.nextInt(3) == 0 ? EDGES[RANDOM.nextInt(EDGES.length)] : RANDOM.nextInt(9) - 1;
    }

    private static void oneObject() {
        TwoTrolleys x = new TwoTrolleys();
        int calls = 0;
        // A text and the calls behind it are 50 at most; no object is used for more than 512.
        while (calls < 512 - 50) {
            if (RANDOM.nextInt(60) == 0 || calls == 0) {
                String text = text();
                calls += text.length() / 20 + 2;
                guarded(() -> Check.tell(x, text), "flight of " + text);
            }
            int which = RANDOM.nextInt(46);
            int a = number();
            int b = number();
            int c = number();
            guarded(() -> call(x, which, a, b, c), "call " + which + " with " + a + ", " + b + ", " + c);
            int trouble = x.trouble();
            if (trouble < 0 || trouble > 6 || (x.where() != -1) != (trouble == 4)) {
                Check.due("trouble()", trouble, -99);
            }
            calls += 3;
        }
    }

    private static String text() {
        switch (RANDOM.nextInt(3)) {
            case 0:
                StringBuilder soup = new StringBuilder();
                for (int i = RANDOM.nextInt(120); i > 0 && soup.length() < 880; i--) {
                    soup.append(WORDS[RANDOM.nextInt(WORDS.length)]).append(RANDOM.nextInt(9) == 0 ? "" : " ");
                }
                return soup.toString();
            case 1:
                char[] broken = RandomFlight.text(RANDOM).toCharArray();
                for (int i = RANDOM.nextInt(3); i > 0; i--) {
                    broken[RANDOM.nextInt(broken.length)] = (char) RANDOM.nextInt(256);
                }
                return new String(broken);
            default:
                return RandomFlight.text(RANDOM);
        }
    }

    private static void guarded(Runnable call, String name) {
        try {
            call.run();
        } catch (RuntimeException e) {
            thrown++;
            System.out.println(name + " threw " + e);
        }
    }

    private static void call(TwoTrolleys x, int which, int a, int b, int c) {
        switch (which) {
            case 0: x.feed(a, b, c, a, b); break;
            case 1: x.flight(a); break;
            case 2: x.fault(); break;
            case 3: x.where(); break;
            case 4: x.sits(a); break;
            case 5: x.all(); break;
            case 6: x.likes(a, b); break;
            case 7: x.loaded(a, b); break;
            case 8: x.fitsIn(a); break;
            case 9: x.start(a); break;
            case 10: x.step(); break;
            case 11: x.finish(); break;
            case 12: x.seconds(a); break;
            case 13: x.left(a, b); break;
            case 14: x.served(a, b); break;
            case 15: x.trays(a, b); break;
            case 16: x.got(a); break;
            case 17: x.sum(a); break;
            case 18: x.heat(a, b); break;
            case 19: x.cold(a, b); break;
            case 20: x.mark(); break;
            case 21: x.back(a); break;
            case 22: x.meets(a); break;
            case 23: x.soonest(); break;
            case 24: x.lacking(a); break;
            case 25: x.fairest(); break;
            case 26: x.met(); break;
            case 27: x.out(a, b, c); break;
            case 28: x.ways(a); break;
            case 29: x.enough(a, b, c); break;
            case 30: x.load(a, b > 0); break;
            case 31: x.spare(a); break;
            case 32: x.unloaded(); break;
            case 33: x.waits(a); break;
            case 34: x.on(a, b); break;
            case 35: x.clear(a); break;
            case 36: x.room(a, b); break;
            case 37: x.fewest(a, b, c, b, c); break;
            case 38: x.till(a, b); break;
            case 39: x.sell(a, b); break;
            case 40: x.given(a); break;
            case 41: x.coins(); break;
            case 42: x.change(a); break;
            case 43: led(x, a); break;
            case 44: x.size(a); break;
            default: x.trouble(); break;
        }
    }

    private static void led(TwoTrolleys x, int i) {
        try {
            x.led(i);
        } catch (NoSuchElementException e) {
            // It is promised.
            return;
        }
    }
}
