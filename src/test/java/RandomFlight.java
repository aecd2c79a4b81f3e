import java.util.ArrayList;
import java.util.Collections;
import java.util.List;
import java.util.Random;

/** A FLIGHT by chance, told in the order in which names need it, kept as numbers for the model and as a text. */
final class RandomFlight {
    int rows;
    int walk;
    int serve;
    int least;
    int cools;
    final List<int[]> kinds = new ArrayList<>();
    final List<int[]> batches = new ArrayList<>();
    final List<int[]> tooks = new ArrayList<>();
    final List<int[]> trolleys = new ArrayList<>();
    final List<int[]> loads = new ArrayList<>();
    final List<int[]> blocks = new ArrayList<>();
    final List<int[]> named = new ArrayList<>();
    final List<int[]> belts = new ArrayList<>();
    final List<int[]> gaps = new ArrayList<>();
    final List<int[]> pasts = new ArrayList<>();
    final List<int[]> drinks = new ArrayList<>();
    private final List<String> lines = new ArrayList<>();
    private final Random random;

    static String text(Random random) {
        return new RandomFlight(random).text();
    }

    RandomFlight(Random random) {
        this.random = random;
        head();
        for (int i = random.nextInt(7); i > 0; i--) {
            int[] batch = {kind(), random.nextInt(random.nextBoolean() ? 12 : 301)};
            batches.add(batch);
            lines.add("batch k" + name(batch[0]) + " at " + batch[1]);
        }
        for (int i = random.nextInt(7); i > 0; i--) {
            int took = random.nextInt(200);
            int[] line = {kind(), took, Math.max(1, took) + random.nextInt(300)};
            tooks.add(line);
            lines.add("took k" + name(line[0]) + " " + line[1] + " of " + line[2]);
        }
        for (int i = random.nextInt(9); i > 0; i--) {
            int[] load = {random.nextInt(trolleys.size()), kind(), 1 + random.nextInt(random.nextInt(5) == 0 ? 99 : 12)};
            loads.add(load);
            lines.add("load t" + name(load[0]) + " k" + name(load[1]) + " many " + load[2]);
        }
        people();
        ways();
        mingle(2 + kinds.size() + trolleys.size());
    }

    String text() {
        return String.join(";", lines);
    }

    private static char name(int number) {
        return (char) ('a' + number);
    }

    private int kind() {
        return random.nextInt(kinds.size());
    }

    private int row() {
        return 1 + random.nextInt(Math.min(40, rows + 2));
    }

    private void head() {
        rows = 2 + random.nextInt(random.nextInt(4) == 0 ? 39 : 6);
        walk = random.nextInt(61);
        serve = 1 + random.nextInt(60);
        least = random.nextInt(91);
        cools = random.nextInt(51);
        lines.add("cabin rows " + rows + " walk " + walk + " serve " + serve);
        lines.add("heat least " + least + " cools " + cools);
        int kindCount = 1 + random.nextInt(4);
        for (int i = 0; i < kindCount; i++) {
            int[] kind = {1 + random.nextInt(8), random.nextInt(100)};
            kinds.add(kind);
            lines.add("kind k" + name(i) + " shape " + kind[0] + " hot " + kind[1]);
        }
        int trolleyCount = random.nextInt(4) == 0 ? 1 : 2;
        int first = random.nextInt(2);
        for (int i = 0; i < trolleyCount; i++) {
            int[] trolley = {(first + i) % 2, 1 + random.nextInt(14), 8 + random.nextInt(33)};
            trolleys.add(trolley);
            lines.add("trolley t" + name(i) + (trolley[0] == 0 ? " front" : " back") + " drawers " + trolley[1]
                    + " holds " + trolley[2]);
        }
    }

    private void people() {
        for (int i = random.nextInt(6); i > 0; i--) {
            int from = row();
            int to = Math.min(40, from + random.nextInt(rows));
            List<Integer> order = new ArrayList<>();
            for (int k = 0; k < kinds.size(); k++) {
                order.add(k);
            }
            Collections.shuffle(order, random);
            int liked = 1 + random.nextInt(kinds.size());
            int[] block = new int[3 + 2 * liked];
            block[0] = from;
            block[1] = to;
            block[2] = 1 + random.nextInt(random.nextInt(3) == 0 ? 9 : 3);
            StringBuilder line = new StringBuilder("block " + from + " to " + to + " seats " + block[2] + " likes ");
            for (int k = 0; k < liked; k++) {
                block[3 + 2 * k] = order.get(k);
                block[4 + 2 * k] = 1 + random.nextInt(9);
                line.append(k == 0 ? "" : ",").append('k').append(name(order.get(k))).append(' ').append(block[4 + 2 * k]);
            }
            blocks.add(block);
            lines.add(line.toString());
        }
        for (int i = random.nextInt(7); i > 0; i--) {
            int[] one = {row(), kind(), random.nextInt(2)};
            named.add(one);
            lines.add("named n" + name(named.size()) + " row " + one[0] + " eats k" + name(one[1]) + (one[2] == 1 ? " child" : ""));
        }
    }

    private void ways() {
        for (int i = random.nextInt(4); i > 0; i--) {
            int from = random.nextInt(12);
            int[] belt = {from, from + 1 + random.nextInt(6)};
            belts.add(belt);
            lines.add("belts " + belt[0] + " to " + belt[1]);
        }
        for (int i = random.nextInt(4); i > 0; i--) {
            int[] gap = {row()};
            gaps.add(gap);
            lines.add("gap " + gap[0]);
        }
        for (int i = random.nextInt(5); i > 0; i--) {
            int[] past = {random.nextInt(15), row(), row()};
            pasts.add(past);
            lines.add("past at " + past[0] + " from " + past[1] + " to " + past[2]);
        }
        for (int i = random.nextInt(5); i > 0; i--) {
            int[] drink = {1 + random.nextInt(random.nextBoolean() ? 10 : 99)};
            drinks.add(drink);
            lines.add("drink d" + name(drinks.size()) + " price " + drink[0]);
        }
    }

    /** Sorts may stand in any order among one another, but each keeps the order of its own LINES. */
    private void mingle(int from) {
        List<String> rest = new ArrayList<>(lines.subList(from, lines.size()));
        lines.subList(from, lines.size()).clear();
        while (!rest.isEmpty()) {
            String picked = rest.get(random.nextInt(rest.size()));
            String word = picked.substring(0, picked.indexOf(' ') + 1);
            int first = 0;
            while (!rest.get(first).startsWith(word)) {
                first++;
            }
            lines.add(rest.remove(first));
        }
    }
}
