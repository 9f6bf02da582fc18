import java.util.ArrayList;
import java.util.Arrays;

/** Two sides that meet by chance, and a feast at which all are there at once; DOC.md tells the promises. */
public final class NotYet {
    public static final int NONE = -1;

    private static final int NO_SUCH = NONE - 9999999;

    private final Market market;
    private final Ranks ranks;
    private final Waits waits;
    private final Tape tape;
    private final Reader reader;
    private final Folk folk;
    private final Feast feast;
    private final Purse purse;

    public NotYet() {
        market = new Market();
        ranks = new Ranks(market);
        waits = new Waits(market);
        tape = new Tape();
        reader = new Reader(tape);
        folk = new Folk(market, waits);
        feast = new Feast();
        purse = new Purse(feast);
    }

    public boolean sorts(int side, int n) {
        if (!market.isSide(side) || n < 1 || n > Market.MOST_SORTS || folk.size() > 0) {
            return false;
        }
        market.resize(side, n);
        return true;
    }

    public boolean look(int side, int sort, int look, int often) {
        if (!market.isSort(side, sort) || look < 0 || look > 999 || often < 0 || often > 999) {
            return false;
        }
        return market.describe(side, sort, look, often);
    }

    public boolean worth(int side, int i, int j, int v) {
        if (!market.isSort(side, i) || !market.isSort(1 - side, j) || v < NONE || v > 999) {
            return false;
        }
        market.tell(side, i, j, v);
        return true;
    }

    public boolean set(int what, int v) {
        return market.change(what, v);
    }

    public int classes(int k, int what) {
        if (what < 0 || what > 8) {
            return NO_SUCH;
        }
        ranks.refresh();
        if (what == 0) {
            return ranks.falling() ? ranks.count() : NONE;
        }
        if (!ranks.falling()) {
            return NO_SUCH;
        }
        if (what >= 7) {
            return ranks.inNone(what - 7);
        }
        return k >= 0 && k < ranks.count() ? ranks.detail(k, what - 1) : NO_SUCH;
    }

    public int patience(int side, int sort, int t) {
        if (!market.isSort(side, sort) || t < 0 || t > market.setting(Market.LAST_WEEK)) {
            return NONE;
        }
        waits.refresh();
        return waits.behind(side, sort, t);
    }

    public int pairs(int i, int j, int t, int what) {
        if (!market.isSort(0, i) || !market.isSort(1, j)) {
            return NONE;
        }
        if (t < 1 || t > market.setting(Market.LAST_WEEK) || what < 0 || what > 2) {
            return NONE;
        }
        waits.refresh();
        boolean first = market.worthTo(0, i, j) >= waits.behind(0, i, t);
        boolean second = market.worthTo(1, j, i) >= waits.behind(1, j, t);
        if (what == 0) {
            return first && second ? 1 : 0;
        }
        return (what == 1 ? first : second) ? 1 : 0;
    }

    public int feed(int a, int b, int c, int d, int e) {
        if (!tape.hasRoom()) {
            return NONE;
        }
        tape.put(a);
        tape.put(b);
        tape.put(c);
        tape.put(d);
        tape.put(e);
        return tape.size();
    }

    public boolean end(int n) {
        return tape.cut(n);
    }

    public int way(int k) {
        reader.forget();
        if (!folk.isWay(k)) {
            tape.cut(0);
            return NONE;
        }
        boolean fine = reader.read();
        tape.cut(0);
        return fine ? folk.teach(k, reader.draft()) : NONE;
    }

    public int fault(int what) {
        if (what == 0) {
            return reader.kindOfFault();
        }
        return what == 1 ? reader.placeOfFault() : NONE;
    }

    public int come(int side, int sort, int way) {
        if (!market.isSort(side, sort) || !folk.isWay(way)) {
            return NONE;
        }
        return folk.admit(side, sort, way);
    }

    public int state(int v) {
        return folk.restate(v);
    }

    public int weeks(int n) {
        if (n < 1 || n > 20 || folk.tally(Folk.WEEKS) + n > 99) {
            return NONE;
        }
        waits.refresh();
        for (int i = 0; i < n; i++) {
            folk.passWeek();
        }
        return folk.countPairs();
    }

    public int one(int p, int what) {
        if (p < 0 || p >= folk.size() || what < 0 || what > 7) {
            return NO_SUCH;
        }
        waits.refresh();
        return folk.about(p, what);
    }

    public int all(int side, int sort, int what) {
        if (!market.isSide(side) || sort != NONE && !market.isSort(side, sort)) {
            return NONE;
        }
        return what < 0 || what > 3 ? NONE : folk.together(side, sort, what);
    }

    public int town(int what) {
        switch (what) {
            case 0:
                return folk.tally(Folk.WEEKS);
            case 1:
                return folk.size();
            case 2:
                return folk.countPairs();
            case 3:
                return folk.tally(Folk.MEETINGS);
            case 4:
                return folk.tally(Folk.MADE);
            case 5:
                return folk.tally(Folk.LEFT);
            case 6:
                return folk.tally(Folk.PARTED);
            case 7:
                return folk.stateNow();
            default:
                return NONE;
        }
    }

    public boolean feast(int n) {
        if (n < 1 || n > Feast.MOST_GUESTS) {
            return false;
        }
        feast.invite(n);
        purse.clear();
        return true;
    }

    public boolean likes(int side, int k, int j, int v) {
        if (!market.isSide(side) || !feast.isGuest(k) || !feast.isGuest(j) || v < 0 || v > 99) {
            return false;
        }
        feast.tell(side, k, j, v);
        return true;
    }

    public int holds() {
        feast.refresh();
        return feast.count();
    }

    public int pairing(int which, int k) {
        if (which < 0 || k != NONE && !feast.isGuest(k)) {
            return NONE;
        }
        feast.refresh();
        if (which == 2) {
            return k == NONE ? feast.greatest() : feast.mostOf(k);
        }
        int row = which < 2 ? feast.bestFor(which) : which - 10;
        if (row < 0 || row >= feast.count()) {
            return NONE;
        }
        return k == NONE ? feast.total(row) : feast.womanOf(row, k);
    }

    public int mended() {
        feast.refresh();
        return feast.greatest() - feast.greatestThatHolds();
    }

    public boolean price(int w, int v) {
        if (!feast.isGuest(w) || v < 0 || v > 999) {
            return false;
        }
        purse.ask(w, v);
        return true;
    }

    public int sums(int k, int what) {
        if (what < 0 || what > 2 || what > 0 && !feast.isGuest(k)) {
            return NONE;
        }
        feast.refresh();
        if (what == 0) {
            return purse.priceFits() ? 1 : 0;
        }
        return what == 1 ? purse.wantedBy(k) : purse.leastOf(k);
    }

    /** SORTS of both SIDES, what is told of them, and the numbers that are all people's. */
    private static final class Market {
        static final int MOST_SORTS = 6;
        static final int COST = 0;
        static final int RATE = 1;
        static final int LAST_WEEK = 2;
        static final int BLUR = 3;
        static final int LATER = 4;
        static final int SPREAD = 5;
        static final int TELLS = 6;

        private static final int[] LEAST = {0, 1, 1, 0, 1, 0, 0};
        private static final int[] MOST = {99, 999, 60, 99, 99, 1, 1};

        private final int[] counts = {3, 3};
        private final int[] looks = new int[2 * MOST_SORTS];
        private final int[] oftens = new int[2 * MOST_SORTS];
        private final int[] told = new int[2 * MOST_SORTS * MOST_SORTS];
        private final int[] settings = {1, 100, 10, 0, 3, 0, 0};
        private int version;

        Market() {
            Arrays.fill(told, NONE);
        }

        /** Grows with every change, so that others know when their tables are old. */
        int version() {
            return version;
        }

        boolean isSide(int side) {
            return side == 0 || side == 1;
        }

        boolean isSort(int side, int sort) {
            return (side == 0 || side == 1) && sort >= 0 && sort < counts[side];
        }

        int count(int side) {
            return isSide(side) ? counts[side] : 0;
        }

        void resize(int side, int n) {
            if (!isSide(side)) {
                return;
            }
            counts[side] = n;
            int first = side * MOST_SORTS;
            for (int i = 0; i < MOST_SORTS; i++) {
                looks[first + i] = 0;
                oftens[first + i] = 0;
            }
            // Each told WORTH is of one SIDE and to the other, so none outlives a change of either.
            Arrays.fill(told, NONE);
            version++;
        }

        boolean describe(int side, int sort, int look, int often) {
            if (!isSort(side, sort)) {
                return false;
            }
            int first = side * MOST_SORTS;
            int sum = often;
            for (int i = 0; i < MOST_SORTS; i++) {
                sum += i == sort ? 0 : oftens[first + i];
            }
            if (sum > 1000) {
                return false;
            }
            looks[first + sort] = look;
            oftens[first + sort] = often;
            version++;
            return true;
        }

        void tell(int side, int i, int j, int v) {
            if (isSort(side, i) && isSort(1 - side, j)) {
                told[(side * MOST_SORTS + i) * MOST_SORTS + j] = v;
                version++;
            }
        }

        boolean change(int what, int v) {
            if (what < 0 || what >= settings.length || v < LEAST[what] || v > MOST[what]) {
                return false;
            }
            settings[what] = v;
            version++;
            return true;
        }

        int setting(int what) {
            return what >= 0 && what < settings.length ? settings[what] : 0;
        }

        int lookOf(int side, int sort) {
            return isSort(side, sort) ? looks[side * MOST_SORTS + sort] : 0;
        }

        int oftenOf(int side, int sort) {
            return isSort(side, sort) ? oftens[side * MOST_SORTS + sort] : 0;
        }

        /** WORTH of SORT j of the other SIDE to SORT i of this one. */
        int worthTo(int side, int i, int j) {
            if (!isSort(side, i) || !isSort(1 - side, j)) {
                return 0;
            }
            int v = told[(side * MOST_SORTS + i) * MOST_SORTS + j];
            return v == NONE ? looks[(1 - side) * MOST_SORTS + j] : v;
        }

        int bestLook(int side) {
            int best = 0;
            for (int i = 0; i < MOST_SORTS && isSort(side, i); i++) {
                best = Math.max(best, looks[side * MOST_SORTS + i]);
            }
            return best;
        }

        boolean falls(int side) {
            for (int i = 1; i < count(side); i++) {
                if (lookOf(side, i) > lookOf(side, i - 1)) {
                    return false;
                }
            }
            return true;
        }
    }

    /** CLASSES, the top ones first. */
    private static final class Ranks {
        private static final int WIDTH = 6;

        private final Market market;
        private final int[] rows = new int[Market.MOST_SORTS * WIDTH];
        private final int[] next = new int[2];
        private int version = NONE;
        private int count;
        private boolean falling;
        private int bar;
        private int above;
        private int below;

        Ranks(Market market) {
            this.market = market;
        }

        boolean falling() {
            return falling;
        }

        int count() {
            return count;
        }

        /** Column 0 and 1 the last SORTS, 2 and 3 WAITING of SIDE 0's choice, 4 and 5 of SIDE 1's. */
        int detail(int k, int column) {
            if (k < 0 || k >= count || column < 0 || column >= WIDTH) {
                return NO_SUCH;
            }
            return rows[k * WIDTH + column];
        }

        int inNone(int side) {
            return market.isSide(side) ? market.count(side) - next[side] : 0;
        }

        void refresh() {
            if (version == market.version()) {
                return;
            }
            version = market.version();
            count = 0;
            next[0] = 0;
            next[1] = 0;
            falling = market.falls(0) && market.falls(1);
            boolean more = falling;
            for (int i = 0; i < Market.MOST_SORTS && more; i++) {
                more = addClass();
            }
        }

        private boolean addClass() {
            int row = count * WIDTH;
            if (row + WIDTH > rows.length) {
                return false;
            }
            if (next[0] >= market.count(0) || next[1] >= market.count(1)) {
                return false;
            }
            choose(1, next[1]);
            if (above < 0) {
                return false;
            }
            int barOfOne = bar;
            rows[row + 2] = above;
            rows[row + 3] = below;
            choose(0, next[0]);
            if (above < 0) {
                return false;
            }
            rows[row] = bar;
            rows[row + 1] = barOfOne;
            rows[row + 4] = above;
            rows[row + 5] = below;
            next[0] = bar + 1;
            next[1] = barOfOne + 1;
            count++;
            return true;
        }

        /** The BAR among the SORTS of this SIDE from first on, as the other SIDE chooses it. */
        private void choose(int side, int first) {
            int up = -1000 * market.setting(Market.COST);
            int down = market.setting(Market.RATE);
            for (int k = first; k < market.count(side); k++) {
                int often = market.oftenOf(side, k);
                up += often * market.lookOf(side, k);
                down += often;
                if (k == first || (long) up * below > (long) above * down) {
                    bar = k;
                    above = up;
                    below = down;
                }
            }
        }
    }

    /** WAIT of every SORT behind every week, from the last one back. */
    private static final class Waits {
        private static final int WIDTH = 61;
        private static final int SORTS = Market.MOST_SORTS;

        private final Market market;
        private final int[] table = new int[2 * SORTS * WIDTH];
        private final int[] worths = new int[2 * SORTS * SORTS];
        private int version = NONE;

        Waits(Market market) {
            this.market = market;
        }

        int behind(int side, int sort, int t) {
            if (!market.isSort(side, sort) || t < 0 || t >= market.setting(Market.LAST_WEEK)) {
                return 0;
            }
            return table[(side * SORTS + sort) * WIDTH + t];
        }

        void refresh() {
            if (version == market.version()) {
                return;
            }
            version = market.version();
            gatherWorths();
            int last = Math.min(market.setting(Market.LAST_WEEK), WIDTH - 1);
            for (int row = 0; row < 2 * SORTS; row++) {
                table[row * WIDTH + last] = 0;
            }
            for (int t = last; t >= 1; t--) {
                for (int row = 0; row < 2 * SORTS; row++) {
                    table[row * WIDTH + t - 1] = ahead(row / SORTS, row % SORTS, t);
                }
            }
        }

        private void gatherWorths() {
            for (int row = 0; row < 2 * SORTS; row++) {
                for (int j = 0; j < SORTS; j++) {
                    worths[row * SORTS + j] = market.worthTo(row / SORTS, row % SORTS, j);
                }
            }
        }

        private int ahead(int side, int i, int t) {
            if (!market.isSort(side, i) || t < 1 || t >= WIDTH) {
                return 0;
            }
            int other = 1 - side;
            int wait = table[(side * SORTS + i) * WIDTH + t];
            int sum = 1000 * wait;
            for (int j = 0; j < market.count(other) && j < SORTS; j++) {
                int mine = worths[(side * SORTS + i) * SORTS + j];
                int hers = worths[(other * SORTS + j) * SORTS + i];
                if (mine >= wait && hers >= table[(other * SORTS + j) * WIDTH + t]) {
                    sum += market.oftenOf(other, j) * (mine - wait);
                }
            }
            return Math.max(0, sum / 1000 - market.setting(Market.COST));
        }
    }

    /** The bytes that are told ahead of a WAY, and the TOKENS they make; signs bear their own numbers. */
    private static final class Tape {
        static final int ROOM = 400;
        static final int END = 0;
        static final int WRONG = 1;
        static final int NUMBER = 2;
        static final int TAKE = 256;
        static final int LEAVE = 257;
        static final int WHEN = 258;
        static final int OR = 259;
        static final int AND = 260;
        static final int NOT = 261;
        static final int WEEK = 262;
        static final int WAIT = 268;

        private static final String WORDS =
            "take leave when or and not week waited sort mine best told wait ";
        private static final String SIGNS = ";+-*/()<=>";

        private final byte[] bytes = new byte[ROOM];
        private final int[] kinds = new int[ROOM + 1];
        private final int[] places = new int[ROOM + 1];
        private final int[] numbers = new int[ROOM + 1];
        private int size;
        private int count;

        int size() {
            return size;
        }

        boolean hasRoom() {
            return size + 20 <= ROOM;
        }

        void put(int number) {
            for (int shift = 24; shift >= 0 && size < ROOM; shift -= 8) {
                bytes[size] = (byte) (number >>> shift);
                size++;
            }
        }

        boolean cut(int n) {
            if (n < 0 || n > size) {
                return false;
            }
            size = n;
            return true;
        }

        int kind(int i) {
            return i >= 0 && i < count ? kinds[i] : WRONG;
        }

        int number(int i) {
            return i >= 0 && i < count ? numbers[i] : 0;
        }

        /** Nothing behind the first wrong one is asked for, so the rest makes no TOKENS. */
        void makeTokens() {
            count = 0;
            int at = 0;
            boolean fine = true;
            for (int i = 0; i < ROOM && at < size && fine; i++) {
                int sign = signAt(at);
                if (sign == 32 || sign == 10) {
                    at++;
                } else {
                    at = makeOne(at, sign);
                    fine = kind(count - 1) != WRONG;
                }
            }
            if (fine) {
                keep(END, size, 0);
            }
        }

        private void keep(int kind, int place, int number) {
            if (count < kinds.length) {
                kinds[count] = kind;
                places[count] = place;
                numbers[count] = number;
                count++;
            }
        }

        private int makeOne(int at, int sign) {
            if (isLetter(sign)) {
                return makeWord(at);
            }
            if (isDigit(sign)) {
                return makeNumber(at);
            }
            keep(SIGNS.indexOf((char) sign) >= 0 ? sign : WRONG, at, 0);
            return at + 1;
        }

        private int makeWord(int from) {
            int to = from + 1;
            while (to < size && isLetter(signAt(to))) {
                to++;
            }
            keep(keyword(from, to - from), from, 0);
            return to;
        }

        private int makeNumber(int from) {
            int to = from;
            int number = 0;
            while (to < size && isDigit(signAt(to))) {
                number = number * 10 + signAt(to) - '0';
                to++;
            }
            keep(to - from <= 4 ? NUMBER : WRONG, from, number);
            return to;
        }

        private int keyword(int from, int length) {
            int begin = 0;
            int word = 0;
            for (int i = 0; i < WORDS.length(); i++) {
                if (WORDS.charAt(i) == ' ') {
                    if (i - begin == length && spells(begin, from, length)) {
                        return TAKE + word;
                    }
                    begin = i + 1;
                    word++;
                }
            }
            return WRONG;
        }

        private boolean spells(int begin, int from, int length) {
            for (int i = 0; i < length; i++) {
                if (begin + i >= WORDS.length() || WORDS.charAt(begin + i) != signAt(from + i)) {
                    return false;
                }
            }
            return true;
        }

        private int signAt(int at) {
            return at >= 0 && at < size ? bytes[at] & 255 : 0;
        }

        private static boolean isLetter(int sign) {
            return sign >= 'a' && sign <= 'z' || sign >= 'A' && sign <= 'Z';
        }

        private static boolean isDigit(int sign) {
            return sign >= '0' && sign <= '9';
        }
    }

    /** A WAY: of each line the E and behind it the B, operands ahead of what joins them. */
    private static final class Way {
        static final int MOST_LINES = 12;
        static final int FACTS = 7;
        // What is 0 or above is a NUMBER; -1 to -FACTS are week to wait.
        static final int ADD = -8;
        static final int LESS_BY = -9;
        static final int TIMES = -10;
        static final int PART = -11;
        static final int BELOW = -12;
        static final int SAME = -13;
        static final int ABOVE = -14;
        static final int AND = -15;
        static final int OR = -16;
        static final int NOT = -17;

        private final int[] code = new int[Tape.ROOM];
        private final int[] heads = new int[MOST_LINES];
        private final int[] starts = new int[MOST_LINES];
        private final int[] middles = new int[MOST_LINES];
        private final int[] ends = new int[MOST_LINES];
        private int size;
        private int lines;

        int lines() {
            return lines;
        }

        void clear() {
            size = 0;
            lines = 0;
        }

        void copy(Way other) {
            size = other.size;
            lines = other.lines;
            System.arraycopy(other.code, 0, code, 0, code.length);
            System.arraycopy(other.heads, 0, heads, 0, MOST_LINES);
            System.arraycopy(other.starts, 0, starts, 0, MOST_LINES);
            System.arraycopy(other.middles, 0, middles, 0, MOST_LINES);
            System.arraycopy(other.ends, 0, ends, 0, MOST_LINES);
        }

        void put(int step) {
            if (size < code.length) {
                code[size] = step;
                size++;
            }
        }

        void open(int head) {
            if (lines < MOST_LINES) {
                heads[lines] = head;
                starts[lines] = size;
            }
        }

        void markMiddle() {
            if (lines < MOST_LINES) {
                middles[lines] = size;
            }
        }

        void close() {
            if (lines < MOST_LINES) {
                ends[lines] = size;
                lines++;
            }
        }

        boolean begins(int line, int head) {
            return line >= 0 && line < lines && heads[line] == head;
        }

        int start(int line) {
            return line >= 0 && line < lines ? starts[line] : 0;
        }

        int middle(int line) {
            return line >= 0 && line < lines ? middles[line] : 0;
        }

        int finish(int line) {
            return line >= 0 && line < lines ? ends[line] : 0;
        }

        int step(int i) {
            return i >= 0 && i < size ? code[i] : 0;
        }
    }

    /** Makes a WAY of the TAPE, or tells its first FAULT. */
    private static final class Reader {
        private static final int MOST_OPEN = 8;

        private final Tape tape;
        private final Way draft = new Way();
        private int current;
        private int token;
        private int fault;
        private int place = NONE;

        Reader(Tape tape) {
            this.tape = tape;
        }

        Way draft() {
            return draft;
        }

        int kindOfFault() {
            return fault;
        }

        int placeOfFault() {
            return place;
        }

        void forget() {
            fault = 0;
            place = NONE;
        }

        boolean read() {
            forget();
            draft.clear();
            tape.makeTokens();
            current = 0;
            token = tape.kind(0);
            // A line more than a WAY may have is begun, for that is where its FAULT is found.
            for (int i = 0; i <= Way.MOST_LINES && token != Tape.END && fault == 0; i++) {
                readLine();
            }
            return fault == 0;
        }

        private void readLine() {
            if (token != Tape.TAKE && token != Tape.LEAVE) {
                blame(1);
                return;
            }
            if (draft.lines() >= Way.MOST_LINES) {
                blame(3);
                return;
            }
            draft.open(token);
            step();
            readSum();
            draft.markMiddle();
            if (token == Tape.WHEN) {
                step();
                readEither(0);
            }
            if (token == ';') {
                draft.close();
                step();
            } else {
                blame(1);
            }
        }

        /** B with the A in it: an "or" waits until the "and"s behind it are joined. */
        private void readEither(int open) {
            boolean waiting = false;
            readClaim(open);
            for (int i = 0; i < Tape.ROOM; i++) {
                if (token == Tape.AND) {
                    step();
                    readClaim(open);
                    draft.put(Way.AND);
                    continue;
                }
                if (waiting) {
                    draft.put(Way.OR);
                }
                if (token != Tape.OR) {
                    return;
                }
                waiting = true;
                step();
                readClaim(open);
            }
        }

        private void readClaim(int open) {
            boolean not = token == Tape.NOT;
            if (!not && token != '(') {
                readSum();
                int joint = comparison();
                readSum();
                draft.put(joint);
                return;
            }
            if (open >= MOST_OPEN) {
                blame(3);
                return;
            }
            step();
            if (not) {
                readClaim(open + 1);
                draft.put(Way.NOT);
                return;
            }
            readEither(open + 1);
            if (token == ')') {
                step();
            } else {
                blame(1);
            }
        }

        private int comparison() {
            int joint = token == '<' ? Way.BELOW : token == '=' ? Way.SAME : Way.ABOVE;
            if (token == '<' || token == '=' || token == '>') {
                step();
            } else {
                blame(1);
            }
            return joint;
        }

        /** E with the T in it: a + or - waits until what is multiplied behind it is joined. */
        private void readSum() {
            int waiting = 0;
            readUnit();
            for (int i = 0; i < Tape.ROOM; i++) {
                if (token == '*') {
                    step();
                    readUnit();
                    draft.put(Way.TIMES);
                    continue;
                }
                if (token == '/') {
                    step();
                    readDivisor();
                    draft.put(Way.PART);
                    continue;
                }
                if (waiting != 0) {
                    draft.put(waiting);
                }
                if (token != '+' && token != '-') {
                    return;
                }
                waiting = token == '+' ? Way.ADD : Way.LESS_BY;
                step();
                readUnit();
            }
        }

        private void readUnit() {
            if (token == Tape.NUMBER) {
                draft.put(tape.number(current));
                step();
            } else if (token >= Tape.WEEK && token <= Tape.WAIT) {
                draft.put(Tape.WEEK - 1 - token);
                step();
            } else {
                blame(1);
            }
        }

        private void readDivisor() {
            int number = tape.number(current);
            if (token != Tape.NUMBER) {
                blame(1);
            } else if (number == 0) {
                blame(2);
            } else {
                draft.put(number);
                step();
            }
        }

        private void step() {
            current++;
            token = current < tape.count && current < tape.kinds.length ? tape.kinds[current] : Tape.WRONG;
        }

        /** A wrong token can stand nowhere, so nothing is read on behind a FAULT. */
        private void blame(int kind) {
            if (fault == 0) {
                fault = kind;
                place = current < tape.count && current < tape.places.length ? tape.places[current] : tape.size;
                token = Tape.WRONG;
            }
        }
    }

    /** Goes through a WAY with what one of the PEOPLE knows. */
    private static final class Judge {
        private final int[] facts = new int[Way.FACTS];
        // Eight open ones leave two claims each, and a comparison four more.
        private final int[] stack = new int[32];

        void know(int which, int v) {
            if (which >= 0 && which < facts.length) {
                facts[which] = v;
            }
        }

        /** The first line with this head whose B is so, or that has none. */
        int line(Way way, int head) {
            for (int i = 0; i < way.lines(); i++) {
                if (way.begins(i, head)) {
                    int middle = way.middle(i);
                    int end = way.finish(i);
                    if (middle == end || run(way, middle, end) != 0) {
                        return i;
                    }
                }
            }
            return NONE;
        }

        int value(Way way, int line) {
            return run(way, way.start(line), way.middle(line));
        }

        private int run(Way way, int from, int to) {
            int top = 0;
            for (int i = from; i < to; i++) {
                int step = way.step(i);
                if (step >= -Way.FACTS) {
                    if (top < stack.length) {
                        stack[top] = step >= 0 ? step : facts[-1 - step];
                        top++;
                    }
                } else if (step == Way.NOT) {
                    if (top >= 1) {
                        stack[top - 1] = 1 - stack[top - 1];
                    }
                } else if (top >= 2) {
                    top--;
                    stack[top - 1] = join(step, stack[top - 1], stack[top]);
                }
            }
            return stack[0];
        }

        private static int join(int step, int a, int b) {
            switch (step) {
                case Way.ADD:
                    return a + b;
                case Way.LESS_BY:
                    return a - b;
                case Way.TIMES:
                    return a * b;
                case Way.PART:
                    return b == 0 ? 0 : a / b;
                case Way.BELOW:
                    return a < b ? 1 : 0;
                case Way.SAME:
                    return a == b ? 1 : 0;
                case Way.ABOVE:
                    return a > b ? 1 : 0;
                case Way.AND:
                    return a & b;
                default:
                    return a | b;
            }
        }
    }

    /** One of the PEOPLE. */
    private static final class Person {
        private final int number;
        private final int side;
        private final int sort;
        private final Way way;
        private Person own;
        private int waited;
        private int age;
        private int taken;
        private boolean lookedAgain;
        private int timesLeft;
        private int timesParted;

        Person(int number, int side, int sort, Way way) {
            this.number = number;
            this.side = side;
            this.sort = sort;
            this.way = way;
        }

        boolean isSingle() {
            return own == null;
        }

        void bind(Person other, int take) {
            own = other;
            age = 0;
            taken = take;
            lookedAgain = false;
        }

        void free() {
            own = null;
            age = 0;
        }
    }

    /** PEOPLE, their WAYS and their WEEKS. */
    private static final class Folk {
        static final int WEEKS = 0;
        static final int MEETINGS = 1;
        static final int MADE = 2;
        static final int LEFT = 3;
        static final int PARTED = 4;

        private static final int MOST_WAYS = 6;
        private static final int MOST_PEOPLE = 40;

        private final Market market;
        private final Waits waits;
        private final Judge judge = new Judge();
        private final ArrayList<Way> ways = new ArrayList<>();
        private final ArrayList<Person> people = new ArrayList<>();
        private final int[] tallies = new int[5];
        private int state;

        Folk(Market market, Waits waits) {
            this.market = market;
            this.waits = waits;
            for (int i = 0; i < MOST_WAYS; i++) {
                ways.add(new Way());
            }
        }

        int size() {
            return people.size();
        }

        int tally(int which) {
            return which >= 0 && which < tallies.length ? tallies[which] : 0;
        }

        int stateNow() {
            return state;
        }

        int restate(int v) {
            int was = state;
            state = v;
            return was;
        }

        boolean isWay(int k) {
            return k >= 0 && k < ways.size();
        }

        int teach(int k, Way draft) {
            if (!isWay(k)) {
                return NONE;
            }
            ways.get(k).copy(draft);
            return draft.lines();
        }

        int admit(int side, int sort, int way) {
            int number = people.size();
            if (number >= MOST_PEOPLE || !isWay(way)) {
                return NONE;
            }
            people.add(new Person(number, side, sort, ways.get(way)));
            return number;
        }

        int countPairs() {
            int count = 0;
            for (int i = 0; i < people.size(); i++) {
                Person p = people.get(i);
                count += p.side == 0 && !p.isSingle() ? 1 : 0;
            }
            return count;
        }

        int together(int side, int sort, int what) {
            int count = 0;
            int single = 0;
            int waited = 0;
            int most = 0;
            for (int i = 0; i < people.size(); i++) {
                Person p = people.get(i);
                if (p.side == side && (sort == NONE || p.sort == sort)) {
                    count++;
                    single += p.isSingle() ? 1 : 0;
                    waited += p.waited;
                    most = Math.max(most, p.waited);
                }
            }
            if (what < 2) {
                return what == 0 ? count : single;
            }
            return what == 2 ? waited : most;
        }

        int about(int number, int what) {
            if (number < 0 || number >= people.size()) {
                return NO_SUCH;
            }
            Person p = people.get(number);
            switch (what) {
                case 0:
                    return p.own == null ? NONE : p.own.number;
                case 1:
                    return p.waited;
                case 2:
                    return p.age;
                case 3:
                    return takeOf(p);
                case 4:
                    return leaveOf(p);
                case 5:
                    return p.own == null ? 0 : worthFor(p, p.own);
                case 6:
                    return p.timesLeft;
                case 7:
                    return p.timesParted;
                default:
                    return NO_SUCH;
            }
        }

        void passWeek() {
            for (int i = 0; i < people.size(); i++) {
                Person p = people.get(i);
                if (p.side == 0 && p.own != null) {
                    lookAgain(p, p.own);
                }
            }
            for (int i = 0; i < people.size(); i++) {
                Person p = people.get(i);
                if (p.side == 0 && p.isSingle()) {
                    goOut(p);
                }
            }
            for (int i = 0; i < people.size(); i++) {
                Person p = people.get(i);
                if (p.isSingle()) {
                    p.waited++;
                } else {
                    p.age++;
                }
            }
            tallies[WEEKS]++;
        }

        private void lookAgain(Person he, Person she) {
            if (he.lookedAgain || he.age < market.setting(Market.LATER)) {
                return;
            }
            he.lookedAgain = true;
            she.lookedAgain = true;
            if (worthFor(he, she) < he.taken || worthFor(she, he) < she.taken) {
                he.free();
                she.free();
                he.timesParted++;
                she.timesParted++;
                tallies[PARTED]++;
            }
        }

        private void goOut(Person he) {
            boolean spread = market.setting(Market.SPREAD) == 1;
            int there = 0;
            for (int i = 0; i < people.size(); i++) {
                there += isThere(people.get(i), spread) ? 1 : 0;
            }
            if (there == 0) {
                return;
            }
            int left = draw(there);
            for (int i = 0; i < people.size(); i++) {
                Person she = people.get(i);
                if (isThere(she, spread)) {
                    if (left == 0) {
                        meet(he, she);
                        return;
                    }
                    left--;
                }
            }
        }

        private static boolean isThere(Person she, boolean spread) {
            return she.side == 1 && (spread || she.isSingle());
        }

        private void meet(Person he, Person she) {
            tallies[MEETINGS]++;
            int heSees = worthFor(he, she) + error();
            int sheSees = worthFor(she, he) + error();
            int hisTake = takeOf(he);
            if (heSees < hisTake) {
                return;
            }
            // Kept even if she leaves for him, where it is not asked: by it she judges when she looks again.
            int herTake = takeOf(she);
            Person before = she.own;
            if (before == null) {
                if (sheSees < herTake) {
                    return;
                }
            } else {
                if (!isTempted(she, before, sheSees)) {
                    return;
                }
                before.free();
                before.timesLeft++;
                tallies[LEFT]++;
            }
            he.bind(she, hisTake);
            she.bind(he, herTake);
            tallies[MADE]++;
        }

        private boolean isTempted(Person she, Person own, int seen) {
            learn(she);
            int line = judge.line(she.way, Tape.LEAVE);
            return line != NONE && seen >= worthFor(she, own) + judge.value(she.way, line);
        }

        private int takeOf(Person p) {
            learn(p);
            int line = judge.line(p.way, Tape.TAKE);
            return line == NONE ? 0 : judge.value(p.way, line);
        }

        private int leaveOf(Person p) {
            learn(p);
            int line = judge.line(p.way, Tape.LEAVE);
            return line == NONE ? NONE : judge.value(p.way, line);
        }

        /** The facts in the order of their KEYWORDS. */
        private void learn(Person p) {
            judge.know(0, tallies[WEEKS]);
            judge.know(1, p.waited);
            judge.know(2, p.sort);
            judge.know(3, market.lookOf(p.side, p.sort));
            judge.know(4, market.bestLook(1 - p.side));
            judge.know(5, market.setting(Market.TELLS));
            judge.know(6, waits.behind(p.side, p.sort, tallies[WEEKS] + 1));
        }

        private int worthFor(Person p, Person other) {
            return market.worthTo(p.side, p.sort, other.sort);
        }

        private int error() {
            int blur = market.setting(Market.BLUR);
            return blur == 0 ? 0 : draw(2 * blur + 1) - blur;
        }

        private int draw(int m) {
            state = 1664525 * state + 1013904223;
            return m > 0 ? (state >>> 8) % m : 0;
        }
    }

    /** THE FEAST: ALL PAIRINGS that hold, and THE MOST. */
    private static final class Feast {
        static final int MOST_GUESTS = 7;

        private static final int SQUARE = MOST_GUESTS * MOST_GUESTS;
        // A PAIRING is one int: the WOMAN of each MAN in three bits.
        private static final int BITS = 3;

        private final int[] liking = new int[2 * SQUARE];
        private final int[] seats = new int[MOST_GUESTS];
        private final int[] most = new int[MOST_GUESTS];
        private final int[] gains = new int[1 << MOST_GUESTS];
        private int[] held = new int[8];
        private int count;
        private int guests = 3;
        private int mensRow;
        private int womensRow;
        private int greatestHeld;
        private boolean stale = true;

        boolean isGuest(int k) {
            return k >= 0 && k < guests;
        }

        int guests() {
            return guests;
        }

        int count() {
            return count;
        }

        int bestFor(int side) {
            return side == 0 ? mensRow : womensRow;
        }

        int greatest() {
            return gains[0];
        }

        int greatestThatHolds() {
            return greatestHeld;
        }

        int mostOf(int man) {
            return isGuest(man) ? most[man] : NONE;
        }

        int womanOf(int row, int man) {
            if (row < 0 || row >= count || !isGuest(man)) {
                return NONE;
            }
            return held[row] >>> BITS * man & MOST_GUESTS;
        }

        void invite(int n) {
            guests = n;
            Arrays.fill(liking, 0);
            stale = true;
        }

        void tell(int side, int k, int j, int v) {
            if ((side == 0 || side == 1) && isGuest(k) && isGuest(j)) {
                liking[side * SQUARE + k * MOST_GUESTS + j] = v;
                stale = true;
            }
        }

        int liked(int side, int k, int j) {
            if (side < 0 || side > 1 || !isGuest(k) || !isGuest(j)) {
                return 0;
            }
            return liking[side * SQUARE + k * MOST_GUESTS + j];
        }

        int sum(int man, int woman) {
            return liked(0, man, woman) + liked(1, woman, man);
        }

        int total(int row) {
            int total = 0;
            for (int man = 0; man < guests; man++) {
                total += sum(man, womanOf(row, man));
            }
            return total;
        }

        void refresh() {
            if (!stale) {
                return;
            }
            stale = false;
            count = 0;
            seat(0, 0);
            findBests();
            findMost();
        }

        private boolean likesMore(int side, int k, int a, int b) {
            int first = liked(side, k, a);
            int second = liked(side, k, b);
            return first > second || first == second && a < b;
        }

        /** WOMEN are tried by number, so that ALL come in order. */
        private void seat(int man, int used) {
            if (man >= guests || man >= MOST_GUESTS) {
                keepSeats();
                return;
            }
            for (int woman = 0; woman < guests; woman++) {
                if ((used >>> woman & 1) == 0 && isQuiet(man, woman)) {
                    seats[man] = woman;
                    seat(man + 1, used | 1 << woman);
                }
            }
        }

        /** Whether nobody seated so far would leave for, or be left for, this couple. */
        private boolean isQuiet(int man, int woman) {
            for (int i = 0; i < man && i < MOST_GUESTS; i++) {
                int his = seats[i];
                if (likesMore(0, i, woman, his) && likesMore(1, woman, i, man)) {
                    return false;
                }
                if (likesMore(0, man, his, woman) && likesMore(1, his, man, i)) {
                    return false;
                }
            }
            return true;
        }

        private void keepSeats() {
            int packed = 0;
            for (int man = 0; man < guests && man < MOST_GUESTS; man++) {
                packed |= seats[man] << BITS * man;
            }
            if (count >= held.length) {
                held = Arrays.copyOf(held, 2 * held.length);
            }
            held[count] = packed;
            count++;
        }

        /** In THE MEN'S every MAN is best off at once, so it has the least sum of ranks; so has THE WOMEN'S. */
        private void findBests() {
            int mens = SQUARE;
            int womens = SQUARE;
            greatestHeld = 0;
            for (int row = 0; row < count; row++) {
                int ofMen = rankSum(0, row);
                int ofWomen = rankSum(1, row);
                if (ofMen < mens) {
                    mens = ofMen;
                    mensRow = row;
                }
                if (ofWomen < womens) {
                    womens = ofWomen;
                    womensRow = row;
                }
                greatestHeld = Math.max(greatestHeld, total(row));
            }
        }

        private int rankSum(int side, int row) {
            int sum = 0;
            for (int man = 0; man < guests; man++) {
                int woman = womanOf(row, man);
                for (int other = 0; other < guests; other++) {
                    boolean more = side == 0 ? likesMore(0, man, other, woman) : likesMore(1, woman, other, man);
                    sum += more ? 1 : 0;
                }
            }
            return sum;
        }

        /** The gain of a set of WOMEN: the most that the MEN who come behind them can have with the others. */
        private void findMost() {
            int full = (1 << guests) - 1;
            gains[full] = 0;
            for (int used = full - 1; used >= 0; used--) {
                int man = Integer.bitCount(used);
                int best = 0;
                for (int woman = 0; woman < guests; woman++) {
                    if ((used >>> woman & 1) == 0) {
                        best = Math.max(best, sum(man, woman) + gains[used | 1 << woman]);
                    }
                }
                gains[used] = best;
            }
            int used = 0;
            for (int man = 0; man < guests && man < MOST_GUESTS; man++) {
                int woman = firstOfMost(man, used);
                most[man] = woman;
                used |= 1 << woman;
            }
        }

        private int firstOfMost(int man, int used) {
            for (int woman = 0; woman < guests; woman++) {
                if ((used >>> woman & 1) == 0 && sum(man, woman) + gains[used | 1 << woman] == gains[used]) {
                    return woman;
                }
            }
            return 0;
        }
    }

    /** PRICES for WOMEN, those that are told and the least ones that hold. */
    private static final class Purse {
        private final Feast feast;
        private final int[] asked = new int[Feast.MOST_GUESTS];
        private final int[] least = new int[Feast.MOST_GUESTS];

        Purse(Feast feast) {
            this.feast = feast;
        }

        void clear() {
            Arrays.fill(asked, 0);
        }

        void ask(int woman, int v) {
            if (woman >= 0 && woman < asked.length) {
                asked[woman] = v;
            }
        }

        private int left(int man, int woman) {
            return woman >= 0 && woman < asked.length ? feast.sum(man, woman) - asked[woman] : 0;
        }

        int wantedBy(int man) {
            int wanted = 0;
            for (int woman = 1; woman < feast.guests(); woman++) {
                if (left(man, woman) > left(man, wanted)) {
                    wanted = woman;
                }
            }
            return wanted;
        }

        boolean priceFits() {
            for (int man = 0; man < feast.guests(); man++) {
                if (left(man, feast.mostOf(man)) < left(man, wantedBy(man))) {
                    return false;
                }
            }
            return true;
        }

        /** A chain of MEN who each push the next PRICE up passes no WOMAN twice, so a round for each is enough. */
        int leastOf(int woman) {
            Arrays.fill(least, 0);
            for (int round = 0; round < feast.guests(); round++) {
                for (int man = 0; man < feast.guests(); man++) {
                    pushUp(man, feast.mostOf(man));
                }
            }
            return woman >= 0 && woman < least.length ? least[woman] : NONE;
        }

        private void pushUp(int man, int own) {
            if (own < 0 || own >= least.length) {
                return;
            }
            int gain = feast.sum(man, own) - least[own];
            for (int woman = 0; woman < feast.guests() && woman < least.length; woman++) {
                least[woman] = Math.max(least[woman], feast.sum(man, woman) - gain);
            }
        }
    }
}
