import java.util.ArrayList;
import java.util.Arrays;
import java.util.HashMap;
import java.util.List;
import java.util.Map;
import java.util.Random;
import java.util.regex.Matcher;
import java.util.regex.Pattern;

/** Texts by chance, whole and broken: the FAULT and its place held against a reader that goes by a table of LINES. */
public final class TextModelTest {
    private static final Random RANDOM = new Random(20261119);
    private static final Pattern TOKEN = Pattern.compile("[a-z]+|[0-9]+|[^ ]", Pattern.DOTALL);
    private static final String[] SORTS = {"cabin", "heat", "kind", "batch", "took", "trolley", "load", "block", "named",
        "belts", "gap", "past", "drink"};
    private static final int[] ROOMS = {1, 1, 4, 6, 6, 2, 8, 5, 6, 3, 3, 4, 4};

    /** = a WORD, # a WHOLE by its bounds (^ from the WHOLE before it on, > above it), + a new NAME, @ a NAME of a sort, E an END. */
    private static final String[] LINES = {"=rows #2..40 =walk #0..60 =serve #1..60", "=least #0..90 =cools #0..50",
        "+ =shape #1..8 =hot #0..99", "@kind =at #0..300", "@kind #0..999 =of ^1..999", "+ E =drawers #1..14 =holds #8..40",
        "@trolley @kind =many #1..99", "#1..40 =to ^1..40 =seats #1..9 =likes @kind #1..9", "+ =row #1..40 =eats @kind",
        "#0..300 =to >0..400", "#1..40", "=at #0..300 =from #1..40 =to #1..40", "+ =price #1..99"};
    private static final String[] ODD = {"cabin", "rows", "walk", "serve", "heat", "least", "cools", "kind", "shape", "hot",
        "batch", "at", "took", "of", "trolley", "front", "back", "drawers", "holds", "load", "many", "block", "to", "seats",
        "likes", "named", "row", "eats", "child", "belts", "gap", "past", "from", "drink", "price", ";", ",", "0", "1", "2",
        "8", "9", "10", "40", "41", "99", "100", "300", "301", "400", "401", "999", "1000", "abcdefghi", "ka", "kb", "ta",
        "tb", "na", "da", "?", "A", "001", "0001", "; gap 1", "; gap 40 ;", "; kind zz shape 1 hot 1", "; trolley zz back",
        "; heat least 1 cools 1", "; batch ka at 1", "; took ka 1 of 1", "; load ta ka many 1", "; belts 1 to 2",
        "; past at 1 from 1 to 1", "; drink zz price 1", "; named zz row 1 eats ka", "; block 1 to 1 seats 1 likes ka 1 , ka 1"};

    private final String text;
    private final Matcher tokens;
    private String token;
    private int place;
    private int fault;
    private final Map<String, String> names = new HashMap<>();
    private final List<String> ends = new ArrayList<>();
    private final int[] counts = new int[SORTS.length];

    public static void main(String[] args) {
        int[] met = new int[7];
        for (int i = 0; i < 15000; i++) {
            String text = broken(RANDOM.nextInt(4));
            TextModelTest model = new TextModelTest(text);
            model.read();
            TwoTrolleys x = new TwoTrolleys();
            boolean fine = model.fault == 0;
            Check.due(x, "flight of " + text, Check.tell(x, text), fine ? model.counts[5] : -1, fine ? 0 : 4);
            Check.due("fault() of " + text, x.fault(), model.fault);
            Check.due("where() of " + text, x.where(), fine ? -1 : model.place);
            met[model.fault]++;
        }
        for (int fault = 0; fault <= 6; fault++) {
            Check.due("texts with FAULT " + fault + " were among " + Arrays.toString(met), met[fault] > 50, true);
        }
        Check.end("TextModelTest");
    }

    /** A text of 900 bytes at most, so many times broken: a TOKEN, or a LINE, or a NAME or WHOLE by another one. */
    private static String broken(int times) {
        String text = RandomFlight.text(RANDOM);
        for (int i = 0; i < times && !text.isEmpty(); i++) {
            switch (RANDOM.nextInt(4)) {
                case 0: text = tokenBroken(text); break;
                case 1: text = lineBroken(text); break;
                default: text = another(text, RANDOM.nextBoolean() ? "[0-9]+" : "\\b[knd][a-f]\\b|\\bt[ab]\\b"); break;
            }
        }
        return text.substring(0, Math.min(900, text.length()));
    }

    private static String tokenBroken(String text) {
        List<String> parts = new ArrayList<>();
        Matcher matcher = TOKEN.matcher(text);
        while (matcher.find()) {
            parts.add(matcher.group());
        }
        if (parts.isEmpty()) {
            return text;
        }
        int at = RANDOM.nextInt(parts.size());
        String odd = ODD[RANDOM.nextInt(ODD.length)];
        switch (RANDOM.nextInt(5)) {
            case 0: parts = parts.subList(0, at); break;
            case 1: parts.remove(at); break;
            case 2: parts.add(at, odd); break;
            case 3: parts.add(at, parts.get(RANDOM.nextInt(parts.size()))); break;
            default: parts.set(at, odd); break;
        }
        return String.join(" ", parts) + (RANDOM.nextInt(9) == 0 ? "  " : "");
    }

    /** A LINE left out, moved, or told several times. */
    private static String lineBroken(String text) {
        List<String> lines = new ArrayList<>(Arrays.asList(text.split(";")));
        String line = lines.get(RANDOM.nextInt(lines.size()));
        int at = RANDOM.nextInt(lines.size());
        switch (RANDOM.nextInt(4)) {
            case 0: lines.remove(at); break;
            case 1: lines.remove(line); lines.add(Math.min(at, lines.size()), line); break;
            case 2: lines.add(at, line); break;
            default:
                for (int i = RANDOM.nextInt(7); i >= 0; i--) {
                    lines.add(RANDOM.nextInt(lines.size() + 1), line);
                }
                break;
        }
        return String.join(";", lines);
    }

    /** One of what the pattern finds by one that is found elsewhere, or a number by one of a bound. */
    private static String another(String text, String pattern) {
        List<Integer> starts = new ArrayList<>();
        List<String> found = new ArrayList<>();
        Matcher matcher = Pattern.compile(pattern).matcher(text);
        while (matcher.find()) {
            starts.add(matcher.start());
            found.add(matcher.group());
        }
        if (found.isEmpty()) {
            return text;
        }
        int at = RANDOM.nextInt(found.size());
        String other = found.get(RANDOM.nextInt(found.size()));
        int[] bounds = {0, 1, 2, 8, 9, 14, 40, 50, 60, 90, 99, 300, 400, 999};
        if (pattern.startsWith("[0-9]") && RANDOM.nextInt(3) > 0) {
            other = String.valueOf(Math.max(0, bounds[RANDOM.nextInt(bounds.length)] + RANDOM.nextInt(3) - 1));
        }
        return text.substring(0, starts.get(at)) + other + text.substring(starts.get(at) + found.get(at).length());
    }

    private TextModelTest(String text) {
        this.text = text;
        tokens = TOKEN.matcher(text);
        next();
    }

    private void next() {
        boolean more = tokens.find();
        token = more ? tokens.group() : "";
        place = more ? tokens.start() : text.length();
    }

    private boolean isWord() {
        return token.matches("[a-z]{1,8}");
    }

    private boolean isName() {
        return isWord() && !token.equals("child") && !Arrays.asList(SORTS).contains(token);
    }

    private void fail(int number) {
        fault = fault == 0 ? number : fault;
    }

    private void read() {
        line();
        while (fault == 0 && token.equals(";")) {
            next();
            line();
        }
        if (fault == 0 && !token.isEmpty()) {
            fail(1);
        }
        if (fault == 0 && (counts[0] == 0 || counts[1] == 0 || counts[2] == 0 || counts[5] == 0)) {
            fail(6);
        }
    }

    private void line() {
        int sort = Arrays.asList(SORTS).indexOf(token);
        if (sort < 0) {
            fail(1);
        } else if (counts[sort] == ROOMS[sort]) {
            fail(sort < 2 ? 3 : 5);
        } else {
            next();
            pattern(LINES[sort], SORTS[sort]);
            if (fault == 0 && sort == 7) {
                moreLikes();
            }
            if (fault == 0 && sort == 8 && token.equals("child")) {
                next();
            }
            counts[sort]++;
        }
    }

    private final List<String> liked = new ArrayList<>();

    private void pattern(String line, String sort) {
        liked.clear();
        int before = 0;
        for (String item : line.split(" ")) {
            if (fault != 0) {
                return;
            }
            String rest = item.substring(1);
            switch (item.charAt(0)) {
                case '=': take(token.equals(rest), 1); break;
                case '+': newName(sort); break;
                case '@': name(rest, sort.equals("block")); break;
                case 'E': end(); break;
                default: before = whole(item.charAt(0), rest, before); break;
            }
        }
    }

    private void take(boolean right, int number) {
        if (right) {
            next();
        } else {
            fail(number);
        }
    }

    private void newName(String sort) {
        String name = token;
        if (isName() && !names.containsKey(name)) {
            names.put(name, sort);
            next();
        } else {
            fail(isName() ? 3 : 1);
        }
    }

    private void name(String sort, boolean unlike) {
        if (!isName()) {
            fail(1);
        } else if (!sort.equals(names.get(token))) {
            fail(2);
        } else if (unlike && liked.contains(token)) {
            fail(3);
        } else {
            liked.add(token);
            next();
        }
    }

    private void end() {
        boolean isEnd = token.equals("front") || token.equals("back");
        boolean again = ends.contains(token);
        ends.add(token);
        take(isEnd && !again, isEnd ? 3 : 1);
    }

    private int whole(char how, String bounds, int before) {
        if (!token.matches("[0-9]{1,3}")) {
            fail(1);
            return 0;
        }
        int least = Integer.parseInt(bounds.substring(0, bounds.indexOf('.')));
        int most = Integer.parseInt(bounds.substring(bounds.lastIndexOf('.') + 1));
        least = how == '^' ? Math.max(least, before) : how == '>' ? before + 1 : least;
        int number = Integer.parseInt(token);
        take(number >= least && number <= most, 4);
        return number;
    }

    private void moreLikes() {
        while (fault == 0 && token.equals(",")) {
            next();
            name("kind", true);
            if (fault == 0) {
                whole('#', "1..9", 0);
            }
        }
    }
}
