import java.util.ArrayList;
import java.util.List;
import java.util.Random;

/** Flights by chance, each call held against a model that counts second by second and way by way. */
public final class ModelTest {
    private static final int[] COINS = {1, 2, 5, 10, 20, 50};
    private static final Random RANDOM = new Random(4711);
    /** An object answers 512 calls. */
    private static final int MOST_CALLS = 512;

    /** A call that changes the object, kept so that a new object can be brought to the same state. */
    private interface Deed {
        long on(TwoTrolleys x);
    }

    private final RandomFlight f;
    private TwoTrolleys x;
    private int calls;
    private final List<Deed> deeds = new ArrayList<>();
    private final int seedAtFirst;
    private int seed;
    private final int[][] left = new int[2][4];
    private final int[] seconds = new int[2];
    private final int[] by = new int[41];
    private final int[][] facts = new int[41][7];
    private final int[][] trays = new int[41][4];
    private final int[] got = new int[6];
    /** The ROW of each trolley at each second, 0 for none. */
    private final int[][] at = new int[2][60000];
    private int spilt;

    public static void main(String[] args) {
        int done = 0;
        while (done < 400) {
            RandomFlight f = new RandomFlight(RANDOM);
            if (f.text().length() <= 900) {
                new ModelTest(f).compare();
                done++;
            }
        }
        Check.end("ModelTest");
    }

    private ModelTest(RandomFlight f) {
        this.f = f;
        x = usedObject();
        calls = 3 * 47;
        tellIt();
        seedAtFirst = RANDOM.nextInt(65537);
    }

    private void tellIt() {
        Check.due("fault() of " + f.text(), Check.tell(x, f.text()) >= 1, true);
        calls += 46;
    }

    /** Says how many calls come next: a new object takes the place of one that would be used up by them. */
    private void spend(int more) {
        if (calls + more > MOST_CALLS) {
            x = new TwoTrolleys();
            calls = 0;
            tellIt();
            for (Deed deed : deeds) {
                deed.on(x);
                calls++;
            }
        }
        calls += more;
    }

    private long act(Deed deed) {
        spend(1);
        deeds.add(deed);
        return deed.on(x);
    }

    private void startBy(int number) {
        act(o -> o.start(number) ? 1 : 0);
    }

    /** An object that was told other flights before, so that what they left would be seen. */
    private static TwoTrolleys usedObject() {
        TwoTrolleys used = new TwoTrolleys();
        for (int i = 0; i < 3; i++) {
            String other = RandomFlight.text(RANDOM);
            int length = Math.min(900, other.length());
            Check.tell(used, other.substring(0, RANDOM.nextBoolean() ? length : RANDOM.nextInt(length)));
            used.finish();
        }
        return used;
    }

    private void compare() {
        sizes();
        cabin();
        startBy(RANDOM.nextInt(65537));
        act(o -> o.finish());
        startBy(seedAtFirst);
        restart();
        int steps = RANDOM.nextInt(f.rows + 1);
        for (int i = 0; i < steps; i++) {
            Check.due("step() of " + f.text(), act(o -> o.step()), step());
        }
        runAsItStands();
        int mark = (int) act(o -> o.mark());
        int rest = f.rows - steps;
        Check.due("finish()", act(o -> o.finish()), rest);
        int seedThere = seed;
        for (int i = 0; i < rest; i++) {
            step();
        }
        runAsItStands();
        Check.due("back()", act(o -> o.back(mark) ? 1 : 0), 1);
        spend(1);
        Check.due("SEED of the MARK", x.size(13), seedThere);
        Check.due("finish() again", act(o -> o.finish()), rest);
        runAsItStands();
        int end = (int) act(o -> o.mark());
        startBy(RANDOM.nextInt(65537));
        act(o -> o.finish());
        Check.due("back() to the end", act(o -> o.back(end) ? 1 : 0), 1);
        runAsItStands();
        meeting();
        odds();
        heat();
        drinks();
    }

    private void sizes() {
        int[] sizes = {f.rows, f.kinds.size(), f.trolleys.size(), f.loads.size(), f.blocks.size(), f.named.size(),
            f.batches.size(), f.belts.size(), f.gaps.size(), f.pasts.size(), f.tooks.size(), f.drinks.size()};
        spend(sizes.length);
        for (int what = 0; what < sizes.length; what++) {
            Check.due("size(" + what + ")", x.size(what), sizes[what]);
        }
    }

    private int[] block(int row) {
        int[] latest = null;
        for (int[] block : f.blocks) {
            if (block[0] <= row && row <= block[1]) {
                latest = block;
            }
        }
        return latest;
    }

    private int named(int row) {
        int many = 0;
        for (int[] one : f.named) {
            many += one[0] == row ? 1 : 0;
        }
        return many;
    }

    private int sits(int row) {
        int[] block = block(row);
        return Math.max(block == null ? 0 : block[2], named(row));
    }

    private int weight(int row, int kind) {
        int[] block = block(row);
        for (int i = 3; block != null && i < block.length; i += 2) {
            if (block[i] == kind) {
                return block[i + 1];
            }
        }
        return 0;
    }

    private int all() {
        int all = 0;
        for (int row = 1; row <= f.rows; row++) {
            all += sits(row);
        }
        return all;
    }

    private int loaded(int trolley, int kind) {
        int many = 0;
        for (int[] load : f.loads) {
            many += load[0] == trolley && load[1] == kind ? load[2] : 0;
        }
        return many;
    }

    private void cabin() {
        for (int row = 1; row <= f.rows; row++) {
            spend(1 + f.kinds.size());
            Check.due("sits(" + row + ")", x.sits(row), sits(row));
            for (int kind = 0; kind < f.kinds.size(); kind++) {
                Check.due("likes(" + row + ", " + kind + ")", x.likes(row, kind), weight(row, kind));
            }
        }
        spend(1);
        Check.due("all()", x.all(), all());
        for (int trolley = 0; trolley < f.trolleys.size(); trolley++) {
            spend(1 + f.kinds.size());
            int[] rooms = emptied(trolley);
            int fits = 1;
            for (int kind = 0; kind < f.kinds.size(); kind++) {
                Check.due("loaded", x.loaded(trolley, kind), loaded(trolley, kind));
                for (int i = 0; i < loaded(trolley, kind); i++) {
                    fits = fits == 1 && put(rooms, f.kinds.get(kind)[0]) ? 1 : 0;
                }
            }
            Check.due("fitsIn(" + trolley + ") of " + f.text(), x.fitsIn(trolley), fits);
        }
        unloaded();
        former();
    }

    private void unloaded() {
        int bits = 0;
        for (int i = 0; i < f.named.size(); i++) {
            int[] one = f.named.get(i);
            if (one[0] <= f.rows && loaded(0, one[1]) + loaded(1, one[1]) == 0) {
                bits += 1 << i;
            }
        }
        spend(1);
        Check.due("unloaded()", x.unloaded(), bits);
    }

    private void former() {
        for (int kind = 0; kind < f.kinds.size(); kind++) {
            int least = Integer.MAX_VALUE;
            int most = -1;
            for (int[] took : f.tooks) {
                if (took[0] == kind) {
                    int trays = 0;
                    while (trays * took[2] < all() * took[1]) {
                        trays++;
                    }
                    least = Math.min(least, trays);
                    most = Math.max(most, trays);
                }
            }
            spend(3);
            Check.due("load(" + kind + ", false)", x.load(kind, false), most < 0 ? -1 : least);
            Check.due("load(" + kind + ", true)", x.load(kind, true), most);
            Check.due("spare(" + kind + ")", x.spare(kind), most < 0 ? -1000 : loaded(0, kind) + loaded(1, kind) - most);
        }
    }

    private int[] emptied(int trolley) {
        int[] rooms = new int[f.trolleys.get(trolley)[1]];
        java.util.Arrays.fill(rooms, f.trolleys.get(trolley)[2]);
        return rooms;
    }

    private static boolean put(int[] rooms, int shape) {
        for (int i = 0; i < rooms.length; i++) {
            if (rooms[i] >= shape) {
                rooms[i] -= shape;
                return true;
            }
        }
        return false;
    }

    private void restart() {
        seed = seedAtFirst;
        for (int row = 0; row <= 40; row++) {
            by[row] = -1;
        }
        for (int trolley = 0; trolley < f.trolleys.size(); trolley++) {
            for (int kind = 0; kind < f.kinds.size(); kind++) {
                left[trolley][kind] = loaded(trolley, kind);
            }
        }
    }

    private int step() {
        int trolley = 0;
        if (f.trolleys.size() == 2) {
            int front = f.trolleys.get(0)[0] == 0 ? 0 : 1;
            trolley = seconds[front] <= seconds[1 - front] ? front : 1 - front;
        }
        boolean front = f.trolleys.get(trolley)[0] == 0;
        int row = front ? 1 : f.rows;
        while (by[row] >= 0) {
            row += front ? 1 : -1;
        }
        boolean walks = false;
        for (int other = 1; other <= f.rows; other++) {
            walks |= by[other] == trolley;
        }
        int begin = waited(seconds[trolley]) + (walks ? f.walk : 0);
        occupy(trolley, begin);
        by[row] = trolley;
        facts[row][0] = trolley;
        facts[row][1] = begin;
        serve(row, trolley, begin);
        int end = begin + f.serve * facts[row][6];
        facts[row][2] = end;
        seconds[trolley] = end;
        for (int s = begin; s < end; s++) {
            at[trolley][s] = row;
        }
        for (int[] belt : f.belts) {
            spilt += belt[0] * 60 > begin && belt[0] * 60 < end ? 1 : 0;
        }
        return row;
    }

    /** Up to the next BEGINNING a trolley is on the ROW that it served last. */
    private void occupy(int trolley, int begin) {
        int last = 0;
        for (int row = 1; row <= f.rows; row++) {
            boolean later = by[row] == trolley && (last == 0 || (f.trolleys.get(trolley)[0] == 0 ? row > last : row < last));
            last = later ? row : last;
        }
        for (int s = seconds[trolley]; last > 0 && s < begin; s++) {
            at[trolley][s] = last;
        }
    }

    private int waited(int from) {
        int s = from;
        boolean again = true;
        while (again) {
            again = false;
            for (int[] belt : f.belts) {
                if (s / 60 >= belt[0] && s / 60 < belt[1]) {
                    s = belt[1] * 60;
                    again = true;
                }
            }
        }
        return s;
    }

    private void serve(int row, int trolley, int begin) {
        for (int child = 1; child >= 0; child--) {
            for (int i = 0; i < f.named.size(); i++) {
                int[] one = f.named.get(i);
                if (one[0] == row && one[2] == child) {
                    got[i] = left[trolley][one[1]] > 0 ? 1 : 0;
                    hand(row, trolley, begin, got[i] == 1 ? one[1] : -1);
                }
            }
        }
        for (int i = named(row); i < sits(row); i++) {
            seed = (int) ((75L * seed + 74) % 65537);
            int[] block = block(row);
            StringBuilder wheel = new StringBuilder();
            for (int k = 3; k < block.length; k += 2) {
                wheel.append(String.valueOf(block[k]).repeat(block[k + 1]));
            }
            int kind = wheel.charAt(seed % wheel.length()) - '0';
            if (left[trolley][kind] == 0) {
                kind = 0;
                for (int k = 1; k < 4; k++) {
                    kind = left[trolley][k] > left[trolley][kind] ? k : kind;
                }
                if (left[trolley][kind] == 0) {
                    kind = -1;
                } else {
                    facts[row][3]++;
                }
            }
            hand(row, trolley, begin, kind);
        }
    }

    private void hand(int row, int trolley, int begin, int kind) {
        if (kind < 0) {
            facts[row][4]++;
            return;
        }
        left[trolley][kind]--;
        trays[row][kind]++;
        facts[row][6]++;
        int minute = (begin + f.serve * facts[row][6]) / 60;
        facts[row][5] += heat(kind, minute) < f.least ? 1 : 0;
    }

    private int heat(int kind, int minute) {
        int since = minute;
        for (int[] batch : f.batches) {
            if (batch[0] == kind && batch[1] <= minute) {
                since = Math.min(since, minute - batch[1]);
            }
        }
        return f.kinds.get(kind)[1] - f.cools * since / 10;
    }

    private void runAsItStands() {
        int[] sums = new int[6];
        int leds = 0;
        for (int row = 1; row <= f.rows; row++) {
            boolean served = by[row] >= 0;
            spend(7 + f.kinds.size() + 1);
            for (int what = 0; what < 7; what++) {
                Check.due("served(" + row + ", " + what + ") of " + f.text(), x.served(row, what), served ? facts[row][what] : -1);
            }
            for (int kind = 0; kind < f.kinds.size(); kind++) {
                Check.due("trays(" + row + ", " + kind + ")", x.trays(row, kind), served ? trays[row][kind] : -1);
            }
            sums[0] += facts[row][6];
            sums[1] += facts[row][3];
            sums[2] += facts[row][4];
            sums[3] += facts[row][5];
            sums[5] += served ? 1 : 0;
            if (facts[row][3] + facts[row][4] > 0) {
                Check.due("led(" + leds + ")", x.led(leds), row);
                leds++;
            }
        }
        spend(1 + sums.length + f.named.size() + 1);
        Check.due("led(" + leds + ") throws", Check.ledThrows(x, leds), true);
        sums[4] = spilt;
        for (int what = 0; what < 6; what++) {
            Check.due("sum(" + what + ") of " + f.text(), x.sum(what), sums[what]);
        }
        for (int i = 0; i < f.named.size(); i++) {
            int row = f.named.get(i)[0];
            Check.due("got(" + i + ")", x.got(i), row <= f.rows && by[row] >= 0 ? got[i] : -1);
        }
        Check.due("SEED", x.size(13), seed);
        trolleys();
        pasts();
    }

    private void trolleys() {
        for (int trolley = 0; trolley < f.trolleys.size(); trolley++) {
            spend(1 + 20 + 1 + 14 + 4);
            Check.due("seconds(" + trolley + ")", x.seconds(trolley), seconds[trolley]);
            for (int i = 0; i < 20; i++) {
                int s = RANDOM.nextInt(seconds[trolley] + 9);
                Check.due("on(" + trolley + ", " + s + ") of " + f.text(), x.on(trolley, s), at[trolley][s] == 0 ? -2 : at[trolley][s]);
            }
            int[] rooms = emptied(trolley);
            int taken = 0;
            boolean goes = true;
            for (int row = 1; row <= f.rows; row++) {
                for (int kind = 0; kind < f.kinds.size(); kind++) {
                    for (int i = 0; i < trays[row][kind] && goes; i++) {
                        goes = put(rooms, f.kinds.get(kind)[0]);
                        taken += goes ? 1 : 0;
                    }
                }
            }
            Check.due("clear(" + trolley + ")", x.clear(trolley), taken);
            for (int drawer = 0; drawer < rooms.length; drawer++) {
                Check.due("room(" + trolley + ", " + drawer + ")", x.room(trolley, drawer), rooms[drawer]);
            }
            for (int kind = 0; kind < f.kinds.size(); kind++) {
                Check.due("left(" + trolley + ", " + kind + ")", x.left(trolley, kind), left[trolley][kind]);
            }
        }
    }

    private void pasts() {
        spend(f.pasts.size());
        for (int i = 0; i < f.pasts.size(); i++) {
            int[] past = f.pasts.get(i);
            int s = past[0] * 60;
            while (inTheWay(at[0][s], past) || inTheWay(at[1][s], past)) {
                s++;
            }
            Check.due("waits(" + i + ") of " + f.text(), x.waits(i), s - past[0] * 60);
        }
    }

    private boolean inTheWay(int row, int[] past) {
        for (int[] gap : f.gaps) {
            if (gap[0] == row) {
                return false;
            }
        }
        return row > 0 && row >= Math.min(past[1], past[2]) && row <= Math.max(past[1], past[2]);
    }

    private void meeting() {
        int soonest = 0;
        int fairest = 0;
        int[][] both = new int[41][];
        for (int m = 0; m <= f.rows; m++) {
            both[m] = meetingAt(m);
            spend(2);
            Check.due("meets(" + m + ")", x.meets(m), both[m][0]);
            Check.due("lacking(" + m + ")", x.lacking(m), both[m][1]);
            soonest = both[m][0] < both[soonest][0] ? m : soonest;
            fairest = both[m][1] < both[fairest][1] ? m : fairest;
        }
        spend(3);
        Check.due("soonest()", x.soonest(), soonest);
        Check.due("fairest()", x.fairest(), fairest);
        int met = -1;
        for (int trolley = 0; trolley < f.trolleys.size(); trolley++) {
            if (f.trolleys.get(trolley)[0] == 0) {
                met = 0;
                for (int row = 1; row <= f.rows; row++) {
                    met = by[row] == trolley ? row : met;
                }
            }
        }
        Check.due("met()", x.met(), met);
    }

    private int[] meetingAt(int m) {
        int greatest = 0;
        int lacking = 0;
        for (int trolley = 0; trolley < f.trolleys.size(); trolley++) {
            int spent = 0;
            int people = 0;
            int count = 0;
            for (int row = 1; row <= f.rows; row++) {
                boolean front = f.trolleys.get(trolley)[0] == 0;
                if (f.trolleys.size() == 1 || (row <= m) == front) {
                    spent += f.serve * sits(row) + (count > 0 ? f.walk : 0);
                    people += sits(row);
                    count++;
                }
            }
            greatest = Math.max(greatest, spent);
            for (int kind = 0; kind < f.kinds.size(); kind++) {
                people -= loaded(trolley, kind);
            }
            lacking += Math.max(0, people);
        }
        return new int[] {greatest, lacking};
    }

    private void odds() {
        for (int row = 1; row <= f.rows; row++) {
            int people = 0;
            for (int ahead = 1; ahead < row; ahead++) {
                people += sits(ahead) - named(ahead);
            }
            for (int kind = 0; kind < f.kinds.size(); kind++) {
                if (people > 10) {
                    spend(6);
                    Check.due(x, "out()", x.out(row, kind, 0), -1, 3);
                    Check.due(x, "ways()", x.ways(row), -1, 3);
                    Check.due(x, "enough()", x.enough(row, kind, 50), -1, 3);
                } else {
                    oddsOf(row, kind);
                }
            }
        }
    }

    private void oddsOf(int row, int kind) {
        long all = waysOf(1, 0, row, kind, -1);
        spend(1 + 12 + 1);
        Check.due("ways(" + row + ")", x.ways(row), all);
        int p = RANDOM.nextInt(100);
        int enough = -1;
        for (int many = 0; many <= 11; many++) {
            long more = waysOf(1, 0, row, kind, many);
            Check.due("out(" + row + ", " + kind + ", " + many + ")", x.out(row, kind, many), more);
            enough = enough < 0 && more * 100 <= all * p ? many : enough;
        }
        Check.due("enough(" + row + ", " + kind + ", " + p + ")", x.enough(row, kind, p), enough);
    }

    /** Person by person: each likes the KIND or another one. */
    private long waysOf(int row, int person, int end, int kind, int many) {
        if (row == end) {
            return many < 0 ? 1 : 0;
        }
        if (person >= sits(row) - named(row)) {
            return waysOf(row + 1, 0, end, kind, many);
        }
        int others = 0;
        for (int k = 0; k < f.kinds.size(); k++) {
            others += k == kind ? 0 : weight(row, k);
        }
        long ways = others == 0 ? 0 : others * waysOf(row, person + 1, end, kind, many);
        int mine = weight(row, kind);
        return mine == 0 ? ways : ways + mine * waysOf(row, person + 1, end, kind, many - 1);
    }

    private void heat() {
        for (int kind = 0; kind < f.kinds.size(); kind++) {
            spend(40);
            for (int i = 0; i < 20; i++) {
                int minute = RANDOM.nextInt(i < 10 ? 20 : 1000);
                Check.due("heat(" + kind + ", " + minute + ")", x.heat(kind, minute), heat(kind, minute));
                int cold = minute;
                while (cold < 1000 && heat(kind, cold) >= f.least) {
                    cold++;
                }
                Check.due("cold(" + kind + ", " + minute + ")", x.cold(kind, minute), cold == 1000 ? -2 : cold);
            }
        }
    }

    private void drinks() {
        int[] till = new int[6];
        int notes = 0;
        for (int i = 0; i < 6; i++) {
            int coin = COINS[i];
            int many = RANDOM.nextInt(RANDOM.nextInt(4) == 0 ? 100 : 5);
            till[i] = many;
            act(o -> o.till(coin, many) ? 1 : 0);
        }
        for (int sale = 0; sale < 20 && !f.drinks.isEmpty(); sale++) {
            int drink = RANDOM.nextInt(f.drinks.size());
            int coin = RANDOM.nextInt(7);
            int back = (coin == 6 ? 100 : COINS[coin]) - f.drinks.get(drink)[0];
            int[] best = back < 0 ? null : best(till, 5, back);
            boolean full = coin < 6 && till[coin] == 99;
            boolean sold = best != null && !full;
            String call = "sell(" + drink + ", " + coin + ") of " + java.util.Arrays.toString(till);
            int value = coin == 6 ? 100 : COINS[coin];
            Check.due(call, act(o -> o.sell(drink, value)), sold ? back : -1);
            // Told behind the sale and with no other call between: a new object would have sold last, too.
            spend(1 + 6 + 2);
            Check.due("trouble() behind " + call, x.trouble(), back < 0 ? 5 : sold ? 0 : 6);
            for (int i = 0; i < 6 && sold; i++) {
                Check.due(call + " given(" + COINS[i] + ")", x.given(COINS[i]), best[i]);
                till[i] += (i == coin ? 1 : 0) - best[i];
            }
            notes += sold && coin == 6 ? 1 : 0;
            int worth = 0;
            for (int i = 0; i < 6; i++) {
                worth += COINS[i] * till[i];
            }
            Check.due("coins()", x.coins(), worth);
            Check.due("notes", x.size(15), notes);
        }
    }

    /** All ways, from the most of the greatest coin down; the first of the fewest coins stays. */
    private static int[] best(int[] till, int coin, int rest) {
        if (coin < 0) {
            return rest == 0 ? new int[7] : null;
        }
        int[] best = null;
        for (int many = Math.min(till[coin], rest / COINS[coin]); many >= 0; many--) {
            int[] with = best(till, coin - 1, rest - many * COINS[coin]);
            if (with != null && (best == null || with[6] + many < best[6])) {
                with[coin] = many;
                with[6] += many;
                best = with;
            }
        }
        return best;
    }
}
