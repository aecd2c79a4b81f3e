import java.util.Arrays;
import java.util.NoSuchElementException;

/** Meals in a cabin, served by two trolleys: ../shared/DOC.md says what each call promises. */
public final class TwoTrolleys {
    public static final int NONE = -1;

    /** What heat() and spare() answer in the place of NONE, which might be a true answer there. */
    private static final int FAR_BELOW = -1000;
    /** What cold() and on() answer where they found nothing. */
    private static final int NOWHERE = -2;

    private static final int TAPE_ROOM = 900;
    private static final int FEED_BYTES = 20;
    private static final int MOST_ROWS = 40;
    private static final int MOST_KINDS = 4;
    private static final int MOST_TROLLEYS = 2;
    private static final int MOST_NAMED = 6;
    private static final int MOST_DRAWERS = 14;
    private static final int MOST_MARKS = 4;
    private static final int LAST_SEED = 65536;
    private static final int LAST_MINUTE = 999;
    private static final int LAST_SECOND = 99999;
    private static final int MINUTE = 60;

    /** TROUBLE. */
    private static final int NO_TROUBLE = 0;
    private static final int NONE_SUCH = 1;
    private static final int BAD_NUMBER = 2;
    private static final int NO_ROOM = 3;
    private static final int FAULTY = 4;
    private static final int NOT_SO = 5;
    private static final int THERE_IS_NONE = 6;

    /** FAULTS. */
    private static final int FORM = 1;
    private static final int UNTOLD = 2;
    private static final int AGAIN = 3;
    private static final int BOUNDS = 4;
    private static final int MANY = 5;
    private static final int LACKS = 6;

    /** Sorts of LINES, in the order of their first WORDS in RESERVED. */
    private static final int CABIN = 0;
    private static final int HEAT = 1;
    private static final int KIND = 2;
    private static final int BATCH = 3;
    private static final int TOOK = 4;
    private static final int TROLLEY = 5;
    private static final int LOAD = 6;
    private static final int BLOCK = 7;
    private static final int NAMED = 8;
    private static final int BELTS = 9;
    private static final int GAP = 10;
    private static final int PAST = 11;
    private static final int DRINK = 12;
    private static final int SORTS = 13;
    private static final int[] LIMITS = {1, 1, 4, 6, 6, 2, 8, 5, 6, 3, 3, 4, 4};

    /** Eight places a WORD; child, the last, opens no LINE. */
    private static final String RESERVED =
            "cabin   heat    kind    batch   took    trolley load    block   named   belts   gap     past    drink   child   ";
    private static final int WORD_ROOM = 8;
    private static final int WHOLE_ROOM = 3;
    private static final int MOST_NAMES = 16;

    /** Columns of what a LINE tells, sort by sort. */
    private static final int CABIN_ROWS = 0;
    private static final int CABIN_WALK = 1;
    private static final int CABIN_SERVE = 2;
    private static final int HEAT_LEAST = 0;
    private static final int HEAT_COOLS = 1;
    private static final int KIND_SHAPE = 0;
    private static final int KIND_HOT = 1;
    private static final int BATCH_KIND = 0;
    private static final int BATCH_AT = 1;
    private static final int TOOK_KIND = 0;
    private static final int TOOK_MANY = 1;
    private static final int TOOK_OF = 2;
    private static final int TROLLEY_END = 0;
    private static final int TROLLEY_DRAWERS = 1;
    private static final int TROLLEY_HOLDS = 2;
    private static final int LOAD_TROLLEY = 0;
    private static final int LOAD_KIND = 1;
    private static final int LOAD_MANY = 2;
    private static final int BLOCK_FROM = 0;
    private static final int BLOCK_TO = 1;
    private static final int BLOCK_SEATS = 2;
    private static final int BLOCK_KINDS = 3;
    private static final int BLOCK_LIKES = 4;
    private static final int NAMED_ROW = 0;
    private static final int NAMED_KIND = 1;
    private static final int NAMED_CHILD = 2;
    private static final int BELTS_FROM = 0;
    private static final int BELTS_TO = 1;
    private static final int GAP_ROW = 0;
    private static final int PAST_AT = 0;
    private static final int PAST_FROM = 1;
    private static final int PAST_TO = 2;
    private static final int DRINK_PRICE = 0;

    /** The ENDS from which trolleys come. */
    private static final int FRONT = 0;
    private static final int BACK = 1;

    /** What is known of a ROW that is SERVED, as served() numbers it; behind it trays KIND by KIND. */
    private static final int BY = 0;
    private static final int BEGINNING = 1;
    private static final int END = 2;
    private static final int NO_CHOICE = 3;
    private static final int NOTHING = 4;
    private static final int COLD = 5;
    private static final int TRAYS = 6;
    private static final int TRAYS_OF = 7;
    private static final int FACTS = 11;

    /** What size() counts from 1 on, by sorts of LINES. */
    private static final int[] SIZES = {KIND, TROLLEY, LOAD, BLOCK, NAMED, BATCH, BELTS, GAP, PAST, TOOK, DRINK};

    private static final int[] COINS = {1, 2, 5, 10, 20, 50};
    private static final int COIN_SORTS = 6;
    private static final int MOST_COINS = 99;
    private static final int NOTE = 100;
    private static final int MOST_CHANGE = 199;

    private final Teller teller = new Teller();
    private int tapeLength;
    private Flight current = new Flight();
    /** A text is told into this one, so that a FAULT leaves the FLIGHT as it was. */
    private Flight draft = new Flight();
    private final Run run = new Run();
    private final Run[] marks = new Run[MOST_MARKS];
    private int markCount;
    private final Drawers drawers = new Drawers();
    private final Odds odds = new Odds();
    private final Till box = new Till();
    private int latestTrouble;
    private int latestFault;
    private int faultPlace;

    public TwoTrolleys() {
        for (int i = 0; i < MOST_MARKS; i++) {
            marks[i] = new Run();
        }
    }

    // ---- the flight

    public int feed(int a, int b, int c, int d, int e) {
        if (tapeLength + FEED_BYTES > TAPE_ROOM) {
            return NONE;
        }
        teller.write(tapeLength, a);
        teller.write(tapeLength + 4, b);
        teller.write(tapeLength + 8, c);
        teller.write(tapeLength + 12, d);
        teller.write(tapeLength + 16, e);
        tapeLength += FEED_BYTES;
        return tapeLength;
    }

    public int flight(int n) {
        if (n < 0 || n > tapeLength) {
            return refuse(BAD_NUMBER);
        }
        tapeLength = 0;
        latestFault = teller.read(draft, n);
        faultPlace = teller.faultPlace();
        if (latestFault != 0) {
            return refuse(FAULTY);
        }
        Flight former = current;
        current = draft;
        draft = former;
        run.restart(current, 0);
        markCount = 0;
        return accept(current.count(TROLLEY));
    }

    public int fault() {
        return latestFault;
    }

    public int where() {
        return latestTrouble == FAULTY ? faultPlace : NONE;
    }

    // ---- the cabin

    public int sits(int row) {
        return isRow(row) ? accept(current.sitting(row)) : refuse(NONE_SUCH);
    }

    public int all() {
        return hasFlight() ? accept(current.sittingWithin(1, current.rows())) : refuse(NONE_SUCH);
    }

    public int likes(int row, int kind) {
        return isRow(row) && isKind(kind) ? accept(current.weight(row, kind)) : refuse(NONE_SUCH);
    }

    public int loaded(int trolley, int kind) {
        return isTrolley(trolley) && isKind(kind) ? accept(current.loadOf(trolley, kind)) : refuse(NONE_SUCH);
    }

    public int fitsIn(int trolley) {
        if (!isTrolley(trolley)) {
            return refuse(NONE_SUCH);
        }
        return accept(drawers.holdLoad(current, trolley) ? 1 : 0);
    }

    // ---- a run

    public boolean start(int seed) {
        if (!hasFlight()) {
            return deny(NONE_SUCH);
        }
        if (seed < 0 || seed > LAST_SEED) {
            return deny(BAD_NUMBER);
        }
        run.restart(current, seed);
        return grant();
    }

    public int step() {
        if (!hasFlight()) {
            return refuse(NONE_SUCH);
        }
        return run.isOver() ? refuse(THERE_IS_NONE) : accept(run.advance(current));
    }

    public int finish() {
        if (!hasFlight()) {
            return refuse(NONE_SUCH);
        }
        int steps = 0;
        while (steps < MOST_ROWS && !run.isOver()) {
            run.advance(current);
            steps++;
        }
        return accept(steps);
    }

    public int seconds(int trolley) {
        return isTrolley(trolley) ? accept(run.secondsOf(trolley)) : refuse(NONE_SUCH);
    }

    public int left(int trolley, int kind) {
        return isTrolley(trolley) && isKind(kind) ? accept(run.leftOf(trolley, kind)) : refuse(NONE_SUCH);
    }

    public int served(int row, int what) {
        if (!isRow(row) || what < BY || what > TRAYS) {
            return refuse(NONE_SUCH);
        }
        return run.isServed(row) ? accept(run.fact(row, what)) : refuse(THERE_IS_NONE);
    }

    public int trays(int row, int kind) {
        if (!isRow(row) || !isKind(kind)) {
            return refuse(NONE_SUCH);
        }
        return run.isServed(row) ? accept(run.fact(row, TRAYS_OF + kind)) : refuse(THERE_IS_NONE);
    }

    public int got(int named) {
        if (!current.isNamedInside(named)) {
            return refuse(NONE_SUCH);
        }
        boolean isServed = run.isServed(current.get(NAMED, named, NAMED_ROW));
        return isServed ? accept(run.gotOf(named)) : refuse(THERE_IS_NONE);
    }

    public int sum(int what) {
        if (!hasFlight()) {
            return refuse(NONE_SUCH);
        }
        switch (what) {
            case 0:
                return accept(run.sumOf(TRAYS));
            case 1:
                return accept(run.sumOf(NO_CHOICE));
            case 2:
                return accept(run.sumOf(NOTHING));
            case 3:
                return accept(run.sumOf(COLD));
            case 4:
                return accept(run.spilt());
            case 5:
                return accept(run.rowsServed(current));
            default:
                return refuse(NONE_SUCH);
        }
    }

    public int heat(int kind, int minute) {
        if (!isKind(kind)) {
            return refuseFarBelow(NONE_SUCH);
        }
        if (!isMinute(minute)) {
            return refuseFarBelow(BAD_NUMBER);
        }
        return accept(current.degrees(kind, minute));
    }

    public int cold(int kind, int from) {
        if (!isKind(kind)) {
            return refuse(NONE_SUCH);
        }
        if (!isMinute(from)) {
            return refuse(BAD_NUMBER);
        }
        for (int minute = from; minute <= LAST_MINUTE; minute++) {
            if (current.isCold(kind, minute)) {
                return accept(minute);
            }
        }
        return accept(NOWHERE);
    }

    public int mark() {
        if (!hasFlight()) {
            return refuse(NONE_SUCH);
        }
        if (markCount >= MOST_MARKS) {
            return refuse(NO_ROOM);
        }
        marks[markCount].copy(run);
        markCount++;
        return accept(markCount - 1);
    }

    public boolean back(int mark) {
        if (mark < 0 || mark >= markCount) {
            return deny(NONE_SUCH);
        }
        run.copy(marks[mark]);
        return grant();
    }

    // ---- meeting

    public int meets(int x) {
        if (!hasFlight()) {
            return refuse(NONE_SUCH);
        }
        return isMeeting(x) ? accept(current.secondsMeetingAt(x)) : refuse(BAD_NUMBER);
    }

    public int soonest() {
        if (!hasFlight()) {
            return refuse(NONE_SUCH);
        }
        int best = 0;
        int least = current.secondsMeetingAt(0);
        for (int x = 1; x <= current.rows(); x++) {
            int seconds = current.secondsMeetingAt(x);
            if (seconds < least) {
                best = x;
                least = seconds;
            }
        }
        return accept(best);
    }

    public int lacking(int x) {
        if (!hasFlight()) {
            return refuse(NONE_SUCH);
        }
        return isMeeting(x) ? accept(current.lackingMeetingAt(x)) : refuse(BAD_NUMBER);
    }

    public int fairest() {
        if (!hasFlight()) {
            return refuse(NONE_SUCH);
        }
        int best = 0;
        int least = current.lackingMeetingAt(0);
        for (int x = 1; x <= current.rows(); x++) {
            int lacks = current.lackingMeetingAt(x);
            if (lacks < least) {
                best = x;
                least = lacks;
            }
        }
        return accept(best);
    }

    public int met() {
        if (!current.hasTrolleyFrom(FRONT)) {
            return refuse(NONE_SUCH);
        }
        return run.isOver() ? accept(run.frontRows()) : refuse(NOT_SO);
    }

    // ---- odds, loads

    public long out(int row, int kind, int many) {
        if (!isRow(row) || !isKind(kind)) {
            return refuse(NONE_SUCH);
        }
        if (many < 0 || many > 99) {
            return refuse(BAD_NUMBER);
        }
        if (!odds.weigh(current, row, kind)) {
            return refuse(NO_ROOM);
        }
        accept(0);
        return odds.waysAbove(many);
    }

    public long ways(int row) {
        if (!isRow(row)) {
            return refuse(NONE_SUCH);
        }
        if (!odds.weigh(current, row, 0)) {
            return refuse(NO_ROOM);
        }
        accept(0);
        return odds.allWays();
    }

    public int enough(int row, int kind, int p) {
        if (!isRow(row) || !isKind(kind)) {
            return refuse(NONE_SUCH);
        }
        if (p < 0 || p > 99) {
            return refuse(BAD_NUMBER);
        }
        if (!odds.weigh(current, row, kind)) {
            return refuse(NO_ROOM);
        }
        return accept(odds.fewestFor(p));
    }

    public int load(int kind, boolean most) {
        if (!isKind(kind)) {
            return refuse(NONE_SUCH);
        }
        int trays = current.formerLoad(kind, most);
        return trays == NONE ? refuse(THERE_IS_NONE) : accept(trays);
    }

    public int spare(int kind) {
        if (!isKind(kind)) {
            return refuseFarBelow(NONE_SUCH);
        }
        int trays = current.formerLoad(kind, true);
        return trays == NONE ? refuseFarBelow(THERE_IS_NONE) : accept(current.loadOfKind(kind) - trays);
    }

    public int unloaded() {
        if (!hasFlight()) {
            return refuse(NONE_SUCH);
        }
        int bits = 0;
        for (int i = 0; i < current.count(NAMED); i++) {
            if (current.isNamedInside(i) && current.loadOfKind(current.get(NAMED, i, NAMED_KIND)) == 0) {
                bits |= 1 << i;
            }
        }
        return accept(bits);
    }

    // ---- past, clearing

    public int waits(int past) {
        if (past < 0 || past >= current.count(PAST)) {
            return refuse(NONE_SUCH);
        }
        return accept(run.waitOf(current, past));
    }

    public int on(int trolley, int second) {
        if (!isTrolley(trolley)) {
            return refuse(NONE_SUCH);
        }
        if (second < 0 || second > LAST_SECOND) {
            return refuse(BAD_NUMBER);
        }
        int row = run.rowOf(current, trolley, second);
        return accept(row == NONE ? NOWHERE : row);
    }

    public int clear(int trolley) {
        return isTrolley(trolley) ? accept(drawers.takeBack(current, run, trolley)) : refuse(NONE_SUCH);
    }

    public int room(int trolley, int drawer) {
        if (!isTrolley(trolley) || drawer < 0 || drawer >= current.get(TROLLEY, trolley, TROLLEY_DRAWERS)) {
            return refuse(NONE_SUCH);
        }
        drawers.takeBack(current, run, trolley);
        return accept(drawers.roomIn(drawer));
    }

    public int fewest(int trolley, int n, int m, int o, int p) {
        if (!isTrolley(trolley)) {
            return refuse(NONE_SUCH);
        }
        if (!isWanted(0, n) || !isWanted(1, m) || !isWanted(2, o) || !isWanted(3, p)) {
            return refuse(BAD_NUMBER);
        }
        if ((long) n + m + o + p > Drawers.MOST_TRAYS) {
            return refuse(NO_ROOM);
        }
        drawers.want(0, n);
        drawers.want(1, m);
        drawers.want(2, o);
        drawers.want(3, p);
        return accept(drawers.fewestOf(current, current.get(TROLLEY, trolley, TROLLEY_HOLDS)));
    }

    // ---- drinks

    public boolean till(int v, int many) {
        int coin = Till.coinOf(v);
        if (coin == NONE || many < 0 || many > MOST_COINS) {
            return deny(BAD_NUMBER);
        }
        box.fill(coin, many);
        return grant();
    }

    public int sell(int drink, int v) {
        if (drink < 0 || drink >= current.count(DRINK)) {
            return refuse(NONE_SUCH);
        }
        int coin = Till.coinOf(v);
        if (coin == NONE && v != NOTE) {
            return refuse(BAD_NUMBER);
        }
        int above = v - current.get(DRINK, drink, DRINK_PRICE);
        if (above < 0) {
            return refuse(NOT_SO);
        }
        if (box.isFullOf(coin) || !box.giveBack(above)) {
            return refuse(THERE_IS_NONE);
        }
        box.take(coin);
        return accept(above);
    }

    public int given(int v) {
        int coin = Till.coinOf(v);
        return coin == NONE ? refuse(BAD_NUMBER) : accept(box.givenOf(coin));
    }

    public int coins() {
        return box.worth();
    }

    public int change(int v) {
        return v < 0 || v > MOST_CHANGE ? refuse(BAD_NUMBER) : accept(box.waysToGive(v));
    }

    public int led(int i) throws NoSuchElementException {
        int ahead = i;
        for (int row = 1; row <= current.rows(); row++) {
            if (run.isServed(row) && run.fact(row, NO_CHOICE) + run.fact(row, NOTHING) > 0) {
                if (ahead == 0) {
                    return row;
                }
                ahead--;
            }
        }
        throw new NoSuchElementException();
    }

    public int size(int what) {
        if (what >= 1 && what <= SIZES.length) {
            return current.count(SIZES[what - 1]);
        }
        switch (what) {
            case 0:
                return current.rows();
            case 12:
                return markCount;
            case 13:
                return run.seed();
            case 14:
                return tapeLength;
            case 15:
                return box.notes();
            default:
                return NONE;
        }
    }

    public int trouble() {
        return latestTrouble;
    }

    // ---- what the calls share

    private int accept(int answer) {
        latestTrouble = NO_TROUBLE;
        return answer;
    }

    private int refuse(int trouble) {
        latestTrouble = trouble;
        return NONE;
    }

    private int refuseFarBelow(int trouble) {
        latestTrouble = trouble;
        return FAR_BELOW;
    }

    private boolean grant() {
        latestTrouble = NO_TROUBLE;
        return true;
    }

    private boolean deny(int trouble) {
        latestTrouble = trouble;
        return false;
    }

    private boolean hasFlight() {
        return current.rows() > 0;
    }

    private boolean isRow(int row) {
        return row >= 1 && row <= current.rows();
    }

    private boolean isKind(int kind) {
        return kind >= 0 && kind < current.count(KIND);
    }

    private boolean isTrolley(int trolley) {
        return trolley >= 0 && trolley < current.count(TROLLEY);
    }

    private boolean isMeeting(int x) {
        return x >= 0 && x <= current.rows();
    }

    private static boolean isMinute(int minute) {
        return minute >= 0 && minute <= LAST_MINUTE;
    }

    private boolean isWanted(int kind, int many) {
        return many == 0 || many > 0 && isKind(kind);
    }

    /** THE TAPE, its TOKENS from the left, one at a time, and the first FAULT that is met. */
    private static final class Tokens {
        private static final int AT_END = 0;
        private static final int WORD = 1;
        private static final int WHOLE = 2;
        private static final int SIGN = 3;
        private static final int UNKNOWN = 4;

        private final byte[] bytes = new byte[TAPE_ROOM];
        private int end;
        private int from;
        private int to;
        private int sort;
        private int whole;
        /** The letters of a WORD, eight bits each: names are kept so without a text each. */
        private long word;
        private int fault;
        private int place;
        private final long[] names = new long[MOST_NAMES];
        private final int[] nameSorts = new int[MOST_NAMES];
        private final int[] nameNumbers = new int[MOST_NAMES];
        private int nameCount;

        /** Four bytes of THE TAPE, the highest first. */
        void write(int at, int number) {
            for (int i = 0; i < 4; i++) {
                if (at + i >= 0 && at + i < TAPE_ROOM) {
                    bytes[at + i] = (byte) (number >> (24 - 8 * i));
                }
            }
        }

        void begin(int length) {
            end = Math.min(length, TAPE_ROOM);
            to = 0;
            fault = 0;
            place = NONE;
            nameCount = 0;
            next();
        }

        boolean isFine() {
            return fault == 0;
        }

        boolean isAtEnd() {
            return sort == AT_END;
        }

        int firstFault() {
            return fault;
        }

        int faultPlace() {
            return place;
        }

        void fail(int number) {
            if (fault == 0) {
                fault = number;
                place = from;
            }
        }

        void next() {
            from = to;
            while (from < end && bytes[from] == ' ') {
                from++;
            }
            to = from;
            word = 0;
            whole = 0;
            while (to < end && bytes[to] >= 'a' && bytes[to] <= 'z') {
                word = word << 8 | bytes[to];
                to++;
            }
            if (to > from) {
                sort = to - from <= WORD_ROOM ? WORD : UNKNOWN;
                return;
            }
            while (to < end && bytes[to] >= '0' && bytes[to] <= '9') {
                whole = whole * 10 + bytes[to] - '0';
                to++;
            }
            if (to > from) {
                sort = to - from <= WHOLE_ROOM ? WHOLE : UNKNOWN;
            } else if (from >= end) {
                sort = AT_END;
            } else {
                sort = bytes[from] == ';' || bytes[from] == ',' ? SIGN : UNKNOWN;
                to = from + 1;
            }
        }

        boolean isSign(char sign) {
            return sort == SIGN && from < end && bytes[from] == sign;
        }

        boolean isWord(String text) {
            if (sort != WORD || to - from != text.length()) {
                return false;
            }
            for (int i = 0; i < text.length(); i++) {
                if (bytes[from + i] != text.charAt(i)) {
                    return false;
                }
            }
            return true;
        }

        /** The number of a WORD that is no NAME, or NONE. */
        int reserved() {
            if (sort != WORD) {
                return NONE;
            }
            for (int first = 0; first + WORD_ROOM <= RESERVED.length(); first += WORD_ROOM) {
                boolean same = true;
                for (int i = 0; i < WORD_ROOM && same; i++) {
                    same = RESERVED.charAt(first + i) == (from + i < to ? bytes[from + i] : ' ');
                }
                if (same) {
                    return first / WORD_ROOM;
                }
            }
            return NONE;
        }

        void expectSign(char sign) {
            if (fault != 0) {
                return;
            }
            if (isSign(sign)) {
                next();
            } else {
                fail(FORM);
            }
        }

        void expectWord(String text) {
            if (fault != 0) {
                return;
            }
            if (isWord(text)) {
                next();
            } else {
                fail(FORM);
            }
        }

        int expectWhole(int least, int most) {
            if (fault != 0) {
                return least;
            }
            if (sort != WHOLE) {
                fail(FORM);
                return least;
            }
            if (whole < least || whole > most) {
                fail(BOUNDS);
                return least;
            }
            int answer = whole;
            next();
            return answer;
        }

        /** A NAME that is told here and now. */
        void expectNewName(int sortOfName, int number) {
            if (fault != 0) {
                return;
            }
            if (sort != WORD || reserved() != NONE) {
                fail(FORM);
            } else if (findName() != NONE || nameCount >= MOST_NAMES) {
                fail(AGAIN);
            } else {
                names[nameCount] = word;
                nameSorts[nameCount] = sortOfName;
                nameNumbers[nameCount] = number;
                nameCount++;
                next();
            }
        }

        /** The number of the NAME that stands here; it stays, for the caller may find another FAULT at it. */
        int seeName(int sortOfName) {
            if (fault != 0) {
                return 0;
            }
            if (sort != WORD || reserved() != NONE) {
                fail(FORM);
                return 0;
            }
            int name = findName();
            if (name == NONE || nameSorts[name] != sortOfName) {
                fail(UNTOLD);
                return 0;
            }
            return nameNumbers[name];
        }

        int expectName(int sortOfName) {
            int number = seeName(sortOfName);
            if (fault == 0) {
                next();
            }
            return number;
        }

        private int findName() {
            for (int i = 0; i < nameCount && i < MOST_NAMES; i++) {
                if (names[i] == word) {
                    return i;
                }
            }
            return NONE;
        }
    }

    /** Tells a FLIGHT by its text, LINE by LINE. */
    private static final class Teller {
        private final Tokens tokens = new Tokens();

        void write(int at, int number) {
            tokens.write(at, number);
        }

        int faultPlace() {
            return tokens.faultPlace();
        }

        /** The first FAULT of the text, or 0: the FLIGHT is told then. */
        int read(Flight flight, int length) {
            flight.forget();
            tokens.begin(length);
            for (int line = 0; line <= length && tokens.isFine(); line++) {
                tellLine(flight, tokens.reserved());
                if (tokens.isAtEnd()) {
                    break;
                }
                tokens.expectSign(';');
            }
            if (flight.lacks()) {
                tokens.fail(LACKS);
            }
            if (tokens.isFine()) {
                flight.settle();
            }
            return tokens.firstFault();
        }

        private void tellLine(Flight flight, int sort) {
            if (sort < 0 || sort >= SORTS) {
                tokens.fail(FORM);
                return;
            }
            if (flight.isFull(sort)) {
                tokens.fail(sort == CABIN || sort == HEAT ? AGAIN : MANY);
                return;
            }
            tokens.next();
            flight.open(sort);
            switch (sort) {
                case KIND:
                case TROLLEY:
                case NAMED:
                case DRINK:
                    tokens.expectNewName(sort, flight.count(sort));
                    tellNamedThing(flight, sort);
                    break;
                case BATCH:
                case TOOK:
                case LOAD:
                    tellOfNames(flight, sort);
                    break;
                case BLOCK:
                    tellBlock(flight);
                    break;
                default:
                    tellNumbers(flight, sort);
                    break;
            }
            if (tokens.isFine()) {
                flight.close(sort);
            }
        }

        private void tellNumbers(Flight flight, int sort) {
            switch (sort) {
                case CABIN:
                    flight.put(CABIN, CABIN_ROWS, labelled("rows", 2, MOST_ROWS));
                    flight.put(CABIN, CABIN_WALK, labelled("walk", 0, 60));
                    flight.put(CABIN, CABIN_SERVE, labelled("serve", 1, 60));
                    break;
                case HEAT:
                    flight.put(HEAT, HEAT_LEAST, labelled("least", 0, 90));
                    flight.put(HEAT, HEAT_COOLS, labelled("cools", 0, 50));
                    break;
                case BELTS:
                    int first = tokens.expectWhole(0, 300);
                    flight.put(BELTS, BELTS_FROM, first);
                    flight.put(BELTS, BELTS_TO, labelled("to", first + 1, 400));
                    break;
                case GAP:
                    flight.put(GAP, GAP_ROW, tokens.expectWhole(1, MOST_ROWS));
                    break;
                default:
                    flight.put(PAST, PAST_AT, labelled("at", 0, 300));
                    flight.put(PAST, PAST_FROM, labelled("from", 1, MOST_ROWS));
                    flight.put(PAST, PAST_TO, labelled("to", 1, MOST_ROWS));
                    break;
            }
        }

        private void tellNamedThing(Flight flight, int sort) {
            switch (sort) {
                case KIND:
                    flight.put(KIND, KIND_SHAPE, labelled("shape", 1, 8));
                    flight.put(KIND, KIND_HOT, labelled("hot", 0, 99));
                    break;
                case TROLLEY:
                    flight.put(TROLLEY, TROLLEY_END, trolleyEnd(flight));
                    flight.put(TROLLEY, TROLLEY_DRAWERS, labelled("drawers", 1, MOST_DRAWERS));
                    flight.put(TROLLEY, TROLLEY_HOLDS, labelled("holds", 8, 40));
                    break;
                case NAMED:
                    flight.put(NAMED, NAMED_ROW, labelled("row", 1, MOST_ROWS));
                    tokens.expectWord("eats");
                    flight.put(NAMED, NAMED_KIND, tokens.expectName(KIND));
                    if (tokens.isFine() && tokens.isWord("child")) {
                        flight.put(NAMED, NAMED_CHILD, 1);
                        tokens.next();
                    }
                    break;
                default:
                    flight.put(DRINK, DRINK_PRICE, labelled("price", 1, 99));
                    break;
            }
        }

        private void tellOfNames(Flight flight, int sort) {
            switch (sort) {
                case BATCH:
                    flight.put(BATCH, BATCH_KIND, tokens.expectName(KIND));
                    flight.put(BATCH, BATCH_AT, labelled("at", 0, 300));
                    break;
                case TOOK:
                    flight.put(TOOK, TOOK_KIND, tokens.expectName(KIND));
                    int took = tokens.expectWhole(0, 999);
                    flight.put(TOOK, TOOK_MANY, took);
                    flight.put(TOOK, TOOK_OF, labelled("of", Math.max(1, took), 999));
                    break;
                default:
                    flight.put(LOAD, LOAD_TROLLEY, tokens.expectName(TROLLEY));
                    flight.put(LOAD, LOAD_KIND, tokens.expectName(KIND));
                    flight.put(LOAD, LOAD_MANY, labelled("many", 1, 99));
                    break;
            }
        }

        private void tellBlock(Flight flight) {
            int first = tokens.expectWhole(1, MOST_ROWS);
            flight.put(BLOCK, BLOCK_FROM, first);
            flight.put(BLOCK, BLOCK_TO, labelled("to", first, MOST_ROWS));
            flight.put(BLOCK, BLOCK_SEATS, labelled("seats", 1, 9));
            tokens.expectWord("likes");
            tellLiking(flight);
            // One KIND more than there can be is looked at, for a FAULT stands there.
            for (int i = 0; i < MOST_KINDS && tokens.isFine() && tokens.isSign(','); i++) {
                tokens.next();
                tellLiking(flight);
            }
        }

        private void tellLiking(Flight flight) {
            int kind = tokens.seeName(KIND);
            int line = flight.count(BLOCK);
            if (tokens.isFine() && flight.weightIn(line, kind) > 0) {
                tokens.fail(AGAIN);
            }
            if (tokens.isFine()) {
                tokens.next();
                flight.addLiking(kind, tokens.expectWhole(1, 9));
            }
        }

        private int trolleyEnd(Flight flight) {
            if (!tokens.isFine()) {
                return FRONT;
            }
            int side = tokens.isWord("back") ? BACK : FRONT;
            if (side == FRONT && !tokens.isWord("front")) {
                tokens.fail(FORM);
            } else if (flight.hasTrolleyFrom(side)) {
                tokens.fail(AGAIN);
            } else {
                tokens.next();
            }
            return side;
        }

        private int labelled(String label, int least, int most) {
            tokens.expectWord(label);
            return tokens.expectWhole(least, most);
        }
    }

    /** What a text has told, and what follows from it alone. */
    private static final class Flight {
        private static final int MOST_LINES = 8;
        private static final int COLUMNS = 12;

        private final int[] counts = new int[SORTS];
        private final int[] told = new int[SORTS * MOST_LINES * COLUMNS];
        private final int[] blocks = new int[MOST_ROWS + 1];
        private final int[] sitters = new int[MOST_ROWS + 1];
        private final int[] loads = new int[MOST_TROLLEYS * MOST_KINDS];

        void forget() {
            Arrays.fill(counts, 0);
        }

        boolean lacks() {
            return counts[CABIN] == 0 || counts[HEAT] == 0 || counts[KIND] == 0 || counts[TROLLEY] == 0;
        }

        int count(int sort) {
            return sort >= 0 && sort < SORTS ? counts[sort] : 0;
        }

        boolean isFull(int sort) {
            return sort < 0 || sort >= SORTS || counts[sort] >= LIMITS[sort];
        }

        void open(int sort) {
            for (int column = 0; column < COLUMNS; column++) {
                put(sort, column, 0);
            }
        }

        /** Tells a column of the LINE that is open, behind those that are closed. */
        void put(int sort, int column, int value) {
            if (sort < 0 || sort >= SORTS || column < 0 || column >= COLUMNS) {
                return;
            }
            int line = counts[sort];
            if (line >= 0 && line < MOST_LINES) {
                told[(sort * MOST_LINES + line) * COLUMNS + column] = value;
            }
        }

        void close(int sort) {
            if (!isFull(sort)) {
                counts[sort]++;
            }
        }

        /** 0 for what isn't told: a ROW without a block has no seats and no weights. */
        int get(int sort, int line, int column) {
            if (sort < 0 || sort >= SORTS || line < 0 || line >= MOST_LINES || column < 0 || column >= COLUMNS) {
                return 0;
            }
            return told[(sort * MOST_LINES + line) * COLUMNS + column];
        }

        void addLiking(int kind, int weight) {
            int kinds = get(BLOCK, count(BLOCK), BLOCK_KINDS);
            put(BLOCK, BLOCK_LIKES + 2 * kinds, kind);
            put(BLOCK, BLOCK_LIKES + 2 * kinds + 1, weight);
            put(BLOCK, BLOCK_KINDS, kinds + 1);
        }

        int weightIn(int block, int kind) {
            int kinds = get(BLOCK, block, BLOCK_KINDS);
            for (int i = 0; i < kinds && i < MOST_KINDS; i++) {
                if (get(BLOCK, block, BLOCK_LIKES + 2 * i) == kind) {
                    return get(BLOCK, block, BLOCK_LIKES + 2 * i + 1);
                }
            }
            return 0;
        }

        /** Works out once what many calls ask for. */
        void settle() {
            Arrays.fill(loads, 0);
            for (int i = 0; i < counts[LOAD]; i++) {
                int cell = get(LOAD, i, LOAD_TROLLEY) * MOST_KINDS + get(LOAD, i, LOAD_KIND);
                if (cell >= 0 && cell < loads.length) {
                    loads[cell] += get(LOAD, i, LOAD_MANY);
                }
            }
            for (int row = 1; row <= MOST_ROWS; row++) {
                blocks[row] = latestBlock(row);
                sitters[row] = Math.max(get(BLOCK, blocks[row], BLOCK_SEATS), namedIn(row));
            }
        }

        private int latestBlock(int row) {
            for (int i = counts[BLOCK] - 1; i >= 0; i--) {
                if (row >= get(BLOCK, i, BLOCK_FROM) && row <= get(BLOCK, i, BLOCK_TO)) {
                    return i;
                }
            }
            return NONE;
        }

        private int namedIn(int row) {
            int named = 0;
            for (int i = 0; i < counts[NAMED]; i++) {
                if (get(NAMED, i, NAMED_ROW) == row) {
                    named++;
                }
            }
            return named;
        }

        int rows() {
            return counts[CABIN] == 0 ? 0 : get(CABIN, 0, CABIN_ROWS);
        }

        int walk() {
            return get(CABIN, 0, CABIN_WALK);
        }

        int serve() {
            return get(CABIN, 0, CABIN_SERVE);
        }

        int blockOf(int row) {
            return row >= 1 && row <= MOST_ROWS ? blocks[row] : NONE;
        }

        int sitting(int row) {
            return row >= 1 && row <= MOST_ROWS ? sitters[row] : 0;
        }

        int sittingWithin(int first, int last) {
            int together = 0;
            for (int row = first; row <= last && row <= MOST_ROWS; row++) {
                together += sitting(row);
            }
            return together;
        }

        /** Those of a ROW who like by a draw. */
        int unnamedIn(int row) {
            return sitting(row) - namedIn(row);
        }

        boolean isNamedInside(int named) {
            return named >= 0 && named < counts[NAMED] && get(NAMED, named, NAMED_ROW) <= rows();
        }

        int weight(int row, int kind) {
            return weightIn(blockOf(row), kind);
        }

        int weights(int row) {
            int together = 0;
            for (int i = 0; i < MOST_KINDS; i++) {
                together += get(BLOCK, blockOf(row), BLOCK_LIKES + 2 * i + 1);
            }
            return together;
        }

        /** The KIND that a draw below the sum of the ROW's weights falls on. */
        int likedBy(int row, int draw) {
            int block = blockOf(row);
            int rest = draw;
            for (int i = 0; i < MOST_KINDS; i++) {
                rest -= get(BLOCK, block, BLOCK_LIKES + 2 * i + 1);
                if (rest < 0) {
                    return get(BLOCK, block, BLOCK_LIKES + 2 * i);
                }
            }
            return 0;
        }

        boolean isFront(int trolley) {
            return get(TROLLEY, trolley, TROLLEY_END) == FRONT;
        }

        boolean hasTrolleyFrom(int side) {
            for (int i = 0; i < counts[TROLLEY]; i++) {
                if (get(TROLLEY, i, TROLLEY_END) == side) {
                    return true;
                }
            }
            return false;
        }

        int loadOf(int trolley, int kind) {
            int cell = trolley * MOST_KINDS + kind;
            return cell >= 0 && cell < loads.length ? loads[cell] : 0;
        }

        int loadOfKind(int kind) {
            return loadOf(0, kind) + loadOf(1, kind);
        }

        private int loadOfTrolley(int trolley) {
            int together = 0;
            for (int kind = 0; kind < MOST_KINDS; kind++) {
                together += loadOf(trolley, kind);
            }
            return together;
        }

        int degrees(int kind, int minute) {
            int latest = 0;
            for (int i = 0; i < counts[BATCH]; i++) {
                int at = get(BATCH, i, BATCH_AT);
                if (get(BATCH, i, BATCH_KIND) == kind && at <= minute && at > latest) {
                    latest = at;
                }
            }
            return get(KIND, kind, KIND_HOT) - get(HEAT, 0, HEAT_COOLS) * (minute - latest) / 10;
        }

        boolean isCold(int kind, int minute) {
            return degrees(kind, minute) < get(HEAT, 0, HEAT_LEAST);
        }

        /** The first second from one on whose minute is none of belts. */
        int behindBelts(int second) {
            int free = second;
            // Whoever waited for belts is behind them for good, so as many passes as belts are enough.
            for (int pass = 0; pass < counts[BELTS]; pass++) {
                for (int i = 0; i < counts[BELTS]; i++) {
                    int minute = free / MINUTE;
                    if (minute >= get(BELTS, i, BELTS_FROM) && minute < get(BELTS, i, BELTS_TO)) {
                        free = get(BELTS, i, BELTS_TO) * MINUTE;
                    }
                }
            }
            return free;
        }

        int beltsBegunWithin(int begin, int end) {
            int begun = 0;
            for (int i = 0; i < counts[BELTS]; i++) {
                int second = get(BELTS, i, BELTS_FROM) * MINUTE;
                if (second > begin && second < end) {
                    begun++;
                }
            }
            return begun;
        }

        boolean isGap(int row) {
            for (int i = 0; i < counts[GAP]; i++) {
                if (get(GAP, i, GAP_ROW) == row) {
                    return true;
                }
            }
            return false;
        }

        int secondsMeetingAt(int x) {
            if (counts[TROLLEY] < MOST_TROLLEYS) {
                return secondsFor(1, rows());
            }
            return Math.max(secondsFor(1, x), secondsFor(x + 1, rows()));
        }

        private int secondsFor(int first, int last) {
            int walks = Math.max(0, last - first);
            return serve() * sittingWithin(first, last) + walk() * walks;
        }

        int lackingMeetingAt(int x) {
            int together = 0;
            for (int trolley = 0; trolley < counts[TROLLEY]; trolley++) {
                boolean alone = counts[TROLLEY] < MOST_TROLLEYS;
                int first = alone || isFront(trolley) ? 1 : x + 1;
                int last = alone || !isFront(trolley) ? rows() : x;
                together += Math.max(0, sittingWithin(first, last) - loadOfTrolley(trolley));
            }
            return together;
        }

        /** The least or greatest LOAD of a KIND, NONE without a former flight. */
        int formerLoad(int kind, boolean most) {
            int best = NONE;
            int everyone = sittingWithin(1, rows());
            for (int i = 0; i < counts[TOOK]; i++) {
                int of = get(TOOK, i, TOOK_OF);
                if (get(TOOK, i, TOOK_KIND) == kind && of > 0) {
                    int trays = (everyone * get(TOOK, i, TOOK_MANY) + of - 1) / of;
                    if (best == NONE || (most ? trays > best : trays < best)) {
                        best = trays;
                    }
                }
            }
            return best;
        }
    }

    /** A RUN as it stands, its SEED too. */
    private static final class Run {
        private final int[] spent = new int[MOST_TROLLEYS];
        private final int[] stock = new int[MOST_TROLLEYS * MOST_KINDS];
        private final int[] facts = new int[(MOST_ROWS + 1) * FACTS];
        private final int[] gotIt = new int[MOST_NAMED];
        /** Not served are the ROWS from low to high: the trolleys come from both ENDS. */
        private int low = 1;
        private int high;
        private int spills;
        private int random;

        void restart(Flight flight, int seed) {
            Arrays.fill(spent, 0);
            Arrays.fill(facts, 0);
            Arrays.fill(gotIt, 0);
            for (int i = 0; i < stock.length; i++) {
                stock[i] = flight.loadOf(i / MOST_KINDS, i % MOST_KINDS);
            }
            low = 1;
            high = flight.rows();
            spills = 0;
            random = seed;
        }

        void copy(Run other) {
            System.arraycopy(other.spent, 0, spent, 0, spent.length);
            System.arraycopy(other.stock, 0, stock, 0, stock.length);
            System.arraycopy(other.facts, 0, facts, 0, facts.length);
            System.arraycopy(other.gotIt, 0, gotIt, 0, gotIt.length);
            low = other.low;
            high = other.high;
            spills = other.spills;
            random = other.random;
        }

        boolean isOver() {
            return low > high;
        }

        boolean isServed(int row) {
            return row < low || row > high;
        }

        int rowsServed(Flight flight) {
            return flight.rows() - (high - low + 1);
        }

        int frontRows() {
            return low - 1;
        }

        int seed() {
            return random;
        }

        int spilt() {
            return spills;
        }

        int secondsOf(int trolley) {
            return trolley >= 0 && trolley < MOST_TROLLEYS ? spent[trolley] : 0;
        }

        int leftOf(int trolley, int kind) {
            int cell = trolley * MOST_KINDS + kind;
            return cell >= 0 && cell < stock.length ? stock[cell] : 0;
        }

        int gotOf(int named) {
            return named >= 0 && named < MOST_NAMED ? gotIt[named] : 0;
        }

        int fact(int row, int what) {
            int cell = row * FACTS + what;
            return cell >= 0 && cell < facts.length ? facts[cell] : 0;
        }

        private void addFact(int row, int what, int many) {
            int cell = row * FACTS + what;
            if (cell >= 0 && cell < facts.length) {
                facts[cell] += many;
            }
        }

        int sumOf(int what) {
            int together = 0;
            for (int row = 1; row <= MOST_ROWS; row++) {
                together += fact(row, what);
            }
            return together;
        }

        /** A STEP: the ROW that it served. */
        int advance(Flight flight) {
            int trolley = nextTrolley(flight);
            boolean front = flight.isFront(trolley);
            int row = front ? low : high;
            boolean first = row == (front ? 1 : flight.rows());
            int begin = flight.behindBelts(spent[trolley]) + (first ? 0 : flight.walk());
            addFact(row, BY, trolley);
            addFact(row, BEGINNING, begin);
            addFact(row, END, begin);
            serveNamed(flight, row, 1);
            serveNamed(flight, row, 0);
            serveOthers(flight, row);
            spent[trolley] = fact(row, END);
            spills += flight.beltsBegunWithin(begin, spent[trolley]);
            if (front) {
                low++;
            } else {
                high--;
            }
            return row;
        }

        private int nextTrolley(Flight flight) {
            if (flight.count(TROLLEY) < MOST_TROLLEYS) {
                return 0;
            }
            if (spent[0] == spent[1]) {
                return flight.isFront(0) ? 0 : 1;
            }
            return spent[0] < spent[1] ? 0 : 1;
        }

        private void serveNamed(Flight flight, int row, int child) {
            for (int i = 0; i < flight.count(NAMED) && i < MOST_NAMED; i++) {
                if (flight.get(NAMED, i, NAMED_ROW) == row && flight.get(NAMED, i, NAMED_CHILD) == child) {
                    int kind = flight.get(NAMED, i, NAMED_KIND);
                    if (leftOf(fact(row, BY), kind) > 0) {
                        hand(flight, row, kind);
                        gotIt[i] = 1;
                    } else {
                        addFact(row, NOTHING, 1);
                    }
                }
            }
        }

        private void serveOthers(Flight flight, int row) {
            int others = flight.unnamedIn(row);
            int weights = Math.max(1, flight.weights(row));
            int trolley = fact(row, BY);
            for (int i = 0; i < others; i++) {
                random = (75 * random + 74) % 65537;
                int liked = flight.likedBy(row, random % weights);
                int kind = leftOf(trolley, liked) > 0 ? liked : mostLeft(trolley);
                if (kind == NONE) {
                    addFact(row, NOTHING, 1);
                } else {
                    addFact(row, NO_CHOICE, kind == liked ? 0 : 1);
                    hand(flight, row, kind);
                }
            }
        }

        private int mostLeft(int trolley) {
            int best = NONE;
            for (int kind = 0; kind < MOST_KINDS; kind++) {
                if (leftOf(trolley, kind) > (best == NONE ? 0 : leftOf(trolley, best))) {
                    best = kind;
                }
            }
            return best;
        }

        private void hand(Flight flight, int row, int kind) {
            int cell = fact(row, BY) * MOST_KINDS + kind;
            if (cell >= 0 && cell < stock.length) {
                stock[cell]--;
            }
            addFact(row, END, flight.serve());
            addFact(row, TRAYS, 1);
            addFact(row, TRAYS_OF + kind, 1);
            if (flight.isCold(kind, fact(row, END) / MINUTE)) {
                addFact(row, COLD, 1);
            }
        }

        /** The ROW that a trolley is on at a second, or NONE. */
        int rowOf(Flight flight, int trolley, int second) {
            for (int row = 1; row <= flight.rows(); row++) {
                if (isServed(row) && fact(row, BY) == trolley
                        && second >= fact(row, BEGINNING) && second < leaves(flight, row)) {
                    return row;
                }
            }
            return NONE;
        }

        /** The first second at which the trolley that served a ROW is no longer on it. */
        private int leaves(Flight flight, int row) {
            int trolley = fact(row, BY);
            int next = flight.isFront(trolley) ? row + 1 : row - 1;
            boolean goesOn = next >= 1 && next <= flight.rows() && isServed(next) && fact(next, BY) == trolley;
            return goesOn ? fact(next, BEGINNING) : fact(row, END);
        }

        int waitOf(Flight flight, int past) {
            int from = flight.get(PAST, past, PAST_AT) * MINUTE;
            int second = from;
            // Each pass leaves a ROW behind for good, so there are no more passes than ROWS.
            for (int pass = 0; pass <= MOST_ROWS; pass++) {
                int row = rowInTheWay(flight, past, second);
                if (row == NONE) {
                    break;
                }
                second = leaves(flight, row);
            }
            return second - from;
        }

        private int rowInTheWay(Flight flight, int past, int second) {
            int one = flight.get(PAST, past, PAST_FROM);
            int other = flight.get(PAST, past, PAST_TO);
            for (int trolley = 0; trolley < flight.count(TROLLEY); trolley++) {
                int row = rowOf(flight, trolley, second);
                if (row >= Math.min(one, other) && row <= Math.max(one, other) && !flight.isGap(row)) {
                    return row;
                }
            }
            return NONE;
        }
    }

    /** Trays in the drawers of a trolley. */
    private static final class Drawers {
        static final int MOST_TRAYS = 24;
        /** Of four KINDS with 24 trays together no more ways to take some than with 6 of each. */
        private static final int MOST_STATES = 7 * 7 * 7 * 7;
        /** Above any drawer's eighths: a drawer count and the eighths in the last one make one number. */
        private static final int DRAWER = 64;
        private static final int ABOVE_ALL = 1000000;

        private final int[] rooms = new int[MOST_DRAWERS];
        private int count;
        private final int[] wanted = new int[MOST_KINDS];
        private final int[] best = new int[MOST_STATES];

        private void empty(Flight flight, int trolley) {
            count = Math.min(MOST_DRAWERS, flight.get(TROLLEY, trolley, TROLLEY_DRAWERS));
            for (int i = 0; i < count; i++) {
                rooms[i] = flight.get(TROLLEY, trolley, TROLLEY_HOLDS);
            }
        }

        private boolean takes(int shape) {
            for (int i = 0; i < count; i++) {
                if (rooms[i] >= shape) {
                    rooms[i] -= shape;
                    return true;
                }
            }
            return false;
        }

        int roomIn(int drawer) {
            return drawer >= 0 && drawer < MOST_DRAWERS ? rooms[drawer] : 0;
        }

        boolean holdLoad(Flight flight, int trolley) {
            empty(flight, trolley);
            for (int kind = 0; kind < flight.count(KIND); kind++) {
                int shape = flight.get(KIND, kind, KIND_SHAPE);
                for (int i = 0; i < flight.loadOf(trolley, kind); i++) {
                    if (!takes(shape)) {
                        return false;
                    }
                }
            }
            return true;
        }

        /** How many of the trays handed go in till the first that won't. */
        int takeBack(Flight flight, Run run, int trolley) {
            empty(flight, trolley);
            int taken = 0;
            for (int row = 1; row <= flight.rows(); row++) {
                for (int kind = 0; kind < flight.count(KIND); kind++) {
                    int shape = flight.get(KIND, kind, KIND_SHAPE);
                    for (int i = 0; i < run.fact(row, TRAYS_OF + kind); i++) {
                        if (!takes(shape)) {
                            return taken;
                        }
                        taken++;
                    }
                }
            }
            return taken;
        }

        void want(int kind, int many) {
            if (kind >= 0 && kind < MOST_KINDS) {
                wanted[kind] = Math.max(0, many);
            }
        }

        /** FEWEST drawers for the trays wanted, by the best filling of all lesser wants. */
        int fewestOf(Flight flight, int holds) {
            int states = 1;
            for (int kind = 0; kind < MOST_KINDS; kind++) {
                states *= wanted[kind] + 1;
            }
            if (states < 1 || states > MOST_STATES) {
                return 0;
            }
            // As if a drawer before the first were full: the first tray opens one.
            best[0] = holds;
            for (int state = 1; state < states; state++) {
                best[state] = bestFilling(flight, state, holds);
            }
            return best[states - 1] / DRAWER;
        }

        private int bestFilling(Flight flight, int state, int holds) {
            int least = ABOVE_ALL;
            int stride = 1;
            for (int kind = 0; kind < MOST_KINDS; kind++) {
                int many = state / stride % (wanted[kind] + 1);
                if (many > 0) {
                    int before = best[state - stride];
                    int shape = flight.get(KIND, kind, KIND_SHAPE);
                    boolean fits = before % DRAWER + shape <= holds;
                    int filling = fits ? before + shape : (before / DRAWER + 1) * DRAWER + shape;
                    least = Math.min(least, filling);
                }
                stride *= wanted[kind] + 1;
            }
            return least;
        }
    }

    /** The ways in which those of the ROWS ahead may like a KIND. */
    private static final class Odds {
        private static final int MOST_AHEAD = 10;

        private final long[] waysWith = new long[MOST_AHEAD + 1];

        /** False if there are too many ahead. */
        boolean weigh(Flight flight, int row, int kind) {
            Arrays.fill(waysWith, 0L);
            waysWith[0] = 1;
            int people = 0;
            for (int ahead = 1; ahead < row && ahead <= MOST_ROWS; ahead++) {
                int unnamed = flight.unnamedIn(ahead);
                people += unnamed;
                if (people > MOST_AHEAD) {
                    return false;
                }
                int weight = flight.weight(ahead, kind);
                int others = flight.weights(ahead) - weight;
                for (int i = 0; i < unnamed; i++) {
                    addOne(weight, others);
                }
            }
            return true;
        }

        private void addOne(int weight, int others) {
            for (int many = MOST_AHEAD; many > 0; many--) {
                waysWith[many] = waysWith[many] * others + waysWith[many - 1] * weight;
            }
            waysWith[0] *= others;
        }

        long waysAbove(int many) {
            long together = 0;
            for (int i = Math.max(0, many + 1); i <= MOST_AHEAD; i++) {
                together += waysWith[i];
            }
            return together;
        }

        long allWays() {
            return waysAbove(-1);
        }

        int fewestFor(int hundredths) {
            long most = allWays() * hundredths;
            int many = 0;
            while (many < MOST_AHEAD && waysAbove(many) * 100 > most) {
                many++;
            }
            return many;
        }
    }

    /** The TILL, and what the latest sale gave back. */
    private static final class Till {
        private static final int TOO_MANY = 1000;

        private final int[] stock = new int[COIN_SORTS];
        private final int[] returned = new int[COIN_SORTS];
        private int noteCount;
        /** The fewest coins of the least sorts, so many sorts, for each sum. */
        private final int[][] fewestCoins = new int[COIN_SORTS + 1][NOTE];
        private final int[] waysFor = new int[MOST_CHANGE + 1];

        static int coinOf(int v) {
            for (int i = 0; i < COIN_SORTS; i++) {
                if (COINS[i] == v) {
                    return i;
                }
            }
            return NONE;
        }

        private static boolean isCoin(int coin) {
            return coin >= 0 && coin < COIN_SORTS;
        }

        void fill(int coin, int many) {
            if (isCoin(coin)) {
                stock[coin] = many;
            }
        }

        boolean isFullOf(int coin) {
            return isCoin(coin) && stock[coin] >= MOST_COINS;
        }

        /** What is no coin is a note. */
        void take(int coin) {
            if (isCoin(coin)) {
                stock[coin]++;
            } else {
                noteCount++;
            }
        }

        int notes() {
            return noteCount;
        }

        int givenOf(int coin) {
            return isCoin(coin) ? returned[coin] : 0;
        }

        int worth() {
            int together = 0;
            for (int i = 0; i < COIN_SORTS; i++) {
                together += COINS[i] * stock[i];
            }
            return together;
        }

        /** Gives a sum back if it can be given; false, and nothing is given, else. */
        boolean giveBack(int sum) {
            if (sum < 0 || sum >= NOTE) {
                return false;
            }
            countFewest(sum);
            if (fewestCoins[COIN_SORTS][sum] >= TOO_MANY) {
                return false;
            }
            int rest = sum;
            for (int coin = COIN_SORTS - 1; coin >= 0; coin--) {
                int many = most(coin, rest);
                while (many > 0 && many + fewestCoins[coin][rest - many * COINS[coin]] > fewestCoins[coin + 1][rest]) {
                    many--;
                }
                returned[coin] = many;
                stock[coin] -= many;
                rest -= many * COINS[coin];
            }
            return true;
        }

        private int most(int coin, int sum) {
            return Math.min(stock[coin], sum / COINS[coin]);
        }

        private void countFewest(int sum) {
            Arrays.fill(fewestCoins[0], TOO_MANY);
            fewestCoins[0][0] = 0;
            for (int coin = 0; coin < COIN_SORTS; coin++) {
                for (int part = 0; part <= sum; part++) {
                    int least = TOO_MANY;
                    for (int many = most(coin, part); many >= 0; many--) {
                        least = Math.min(least, many + fewestCoins[coin][part - many * COINS[coin]]);
                    }
                    fewestCoins[coin + 1][part] = least;
                }
            }
        }

        int waysToGive(int sum) {
            if (sum < 0 || sum > MOST_CHANGE) {
                return 0;
            }
            Arrays.fill(waysFor, 0);
            waysFor[0] = 1;
            for (int coin = 0; coin < COIN_SORTS; coin++) {
                int value = COINS[coin];
                for (int part = value; part <= sum; part++) {
                    waysFor[part] += waysFor[part - value];
                }
                // Those were the ways with any number of this coin; the ones with more than are there go again.
                int tooMuch = value * (stock[coin] + 1);
                for (int part = sum; part >= tooMuch; part--) {
                    waysFor[part] -= waysFor[part - tooMuch];
                }
            }
            return waysFor[sum];
        }
    }
}
