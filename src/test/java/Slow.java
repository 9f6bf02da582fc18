import java.util.ArrayList;
import java.util.Arrays;
import java.util.List;

/** The document told again in the plainest way, without any table that is kept, to hold NotYet against. */
final class Slow {
    private static final int NO_SUCH = -10000000;
    private static final String[] WORDS = {"take", "leave", "when", "or", "and", "not",
        "week", "waited", "sort", "mine", "best", "told", "wait"};

    private final int[] n = {3, 3};
    private final int[][] look = new int[2][6];
    private final int[][] often = new int[2][6];
    private final int[][][] told = new int[2][6][6];
    private final int[] setting = {1, 100, 10, 0, 3, 0, 0};
    private String tape = "";
    private final String[] ways = {"", "", "", "", "", ""};
    private int fault;
    private int place = -1;
    private final List<int[]> people = new ArrayList<>();
    private int state;
    private int week;
    private int meetings;
    private int made;
    private int left;
    private int parted;
    private int guests = 3;
    private int[][][] likes = new int[2][7][7];
    private int[] prices = new int[7];

    // One of the people: its side, sort, way, own one, WAITED, age, take as it was, looked again, left, parted.
    private static final int SIDE = 0;
    private static final int SORT = 1;
    private static final int WAY = 2;
    private static final int OWN = 3;
    private static final int WAITED = 4;
    private static final int AGE = 5;
    private static final int TAKEN = 6;
    private static final int LOOKED = 7;
    private static final int WAS_LEFT = 8;
    private static final int HAS_PARTED = 9;

    Slow() {
        untell();
    }

    private void untell() {
        for (int[][] rows : told) {
            for (int[] row : rows) {
                Arrays.fill(row, -1);
            }
        }
    }

    private static boolean in(int v, int least, int most) {
        return least <= v && v <= most;
    }

    private boolean isSort(int side, int sort) {
        return in(side, 0, 1) && in(sort, 0, n[side] - 1);
    }

    boolean sorts(int side, int count) {
        if (!in(side, 0, 1) || !in(count, 1, 6) || !people.isEmpty()) {
            return false;
        }
        n[side] = count;
        look[side] = new int[6];
        often[side] = new int[6];
        untell();
        return true;
    }

    boolean look(int side, int sort, int l, int o) {
        if (!isSort(side, sort) || !in(l, 0, 999) || !in(o, 0, 999)) {
            return false;
        }
        if (Arrays.stream(often[side]).sum() - often[side][sort] + o > 1000) {
            return false;
        }
        look[side][sort] = l;
        often[side][sort] = o;
        return true;
    }

    boolean worth(int side, int i, int j, int v) {
        if (!isSort(side, i) || !isSort(1 - side, j) || !in(v, -1, 999)) {
            return false;
        }
        told[side][i][j] = v;
        return true;
    }

    boolean set(int what, int v) {
        int[] least = {0, 1, 1, 0, 1, 0, 0};
        int[] most = {99, 999, 60, 99, 99, 1, 1};
        if (!in(what, 0, 6) || !in(v, least[what], most[what])) {
            return false;
        }
        setting[what] = v;
        return true;
    }

    private int value(int side, int i, int j) {
        return told[side][i][j] >= 0 ? told[side][i][j] : look[1 - side][j];
    }

    /** BAR, number above and number below for the side that chooses among the other's sorts. */
    private long[] choice(int chooser, int from) {
        int s = 1 - chooser;
        long[] best = null;
        for (int k = from; k < n[s]; k++) {
            long up = -1000L * setting[0];
            long down = setting[1];
            for (int j = from; j <= k; j++) {
                up += (long) often[s][j] * look[s][j];
                down += often[s][j];
            }
            if (best == null || up * best[2] - best[1] * down > 0) {
                best = new long[] {k, up, down};
            }
        }
        return best;
    }

    int classes(int k, int what) {
        if (!in(what, 0, 8)) {
            return NO_SUCH;
        }
        for (int s = 0; s < 2; s++) {
            for (int i = 1; i < n[s]; i++) {
                if (look[s][i] > look[s][i - 1]) {
                    return what == 0 ? -1 : NO_SUCH;
                }
            }
        }
        List<long[]> rows = new ArrayList<>();
        int a = 0;
        int b = 0;
        while (a < n[0] && b < n[1]) {
            long[] c0 = choice(0, b);
            long[] c1 = choice(1, a);
            if (c0[1] < 0 || c1[1] < 0) {
                break;
            }
            rows.add(new long[] {0, c1[0], c0[0], c0[1], c0[2], c1[1], c1[2]});
            a = (int) c1[0] + 1;
            b = (int) c0[0] + 1;
        }
        if (what == 0) {
            return rows.size();
        }
        if (what >= 7) {
            return what == 7 ? n[0] - a : n[1] - b;
        }
        return in(k, 0, rows.size() - 1) ? (int) rows.get(k)[what] : NO_SUCH;
    }

    /** WAIT of all sorts behind week t. */
    private int[][] waits(int t) {
        int[][] later = new int[2][6];
        for (int w = setting[2]; w > t; w--) {
            int[][] now = new int[2][6];
            for (int s = 0; s < 2; s++) {
                for (int i = 0; i < n[s]; i++) {
                    int sum = 0;
                    int rest = 1000;
                    for (int j = 0; j < n[1 - s]; j++) {
                        boolean pair = value(s, i, j) >= later[s][i] && value(1 - s, j, i) >= later[1 - s][j];
                        sum += often[1 - s][j] * (pair ? value(s, i, j) : later[s][i]);
                        rest -= often[1 - s][j];
                    }
                    sum += rest * later[s][i];
                    now[s][i] = Math.max(0, Math.floorDiv(sum, 1000) - setting[0]);
                }
            }
            later = now;
        }
        return later;
    }

    int patience(int side, int sort, int t) {
        return isSort(side, sort) && in(t, 0, setting[2]) ? waits(t)[side][sort] : -1;
    }

    int pairs(int i, int j, int t, int what) {
        if (!isSort(0, i) || !isSort(1, j) || !in(t, 1, setting[2]) || !in(what, 0, 2)) {
            return -1;
        }
        int[][] w = waits(t);
        boolean his = value(0, i, j) >= w[0][i];
        boolean hers = value(1, j, i) >= w[1][j];
        boolean[] answers = {his && hers, his, hers};
        return answers[what] ? 1 : 0;
    }

    int feed(int a, int b, int c, int d, int e) {
        if (tape.length() > 380) {
            return -1;
        }
        StringBuilder more = new StringBuilder(tape);
        for (int number : new int[] {a, b, c, d, e}) {
            for (int shift = 24; shift >= 0; shift -= 8) {
                more.append((char) (number >> shift & 255));
            }
        }
        tape = more.toString();
        return tape.length();
    }

    boolean end(int count) {
        if (!in(count, 0, tape.length())) {
            return false;
        }
        tape = tape.substring(0, count);
        return true;
    }

    private static final class Bad extends RuntimeException {
        private static final long serialVersionUID = 1;
        final int kind;
        final int place;

        Bad(int kind, int place) {
            this.kind = kind;
            this.place = place;
        }
    }

    /** Reads a text and says at once what it comes to for one who knows these facts. */
    private static final class Text {
        final String text;
        final int[] facts;
        int at;
        int lines;
        Integer take;
        Integer leave;
        int open;

        Text(String text, int[] facts) {
            this.text = text;
            this.facts = facts;
        }

        void blanks() {
            while (at < text.length() && (text.charAt(at) == 32 || text.charAt(at) == 10)) {
                at++;
            }
        }

        /** The next token as it is written, "" at the end. */
        String peek() {
            blanks();
            if (at == text.length()) {
                return "";
            }
            int to = at;
            while (to < text.length() && String.valueOf(text.charAt(to)).matches("[a-zA-Z]")) {
                to++;
            }
            if (to == at) {
                while (to < text.length() && String.valueOf(text.charAt(to)).matches("[0-9]")) {
                    to++;
                }
            }
            return text.substring(at, Math.max(to, at + 1));
        }

        boolean eat(String token) {
            if (!peek().equals(token)) {
                return false;
            }
            at += token.length();
            return true;
        }

        void must(String token) {
            if (!eat(token)) {
                throw new Bad(1, at);
            }
        }

        void all() {
            while (!peek().isEmpty()) {
                boolean isTake = peek().equals("take");
                if (!isTake && !peek().equals("leave")) {
                    throw new Bad(1, at);
                }
                if (lines == 12) {
                    throw new Bad(3, at);
                }
                lines++;
                eat(peek());
                int v = e();
                boolean so = !eat("when") || b();
                must(";");
                if (so && isTake && take == null) {
                    take = v;
                }
                if (so && !isTake && leave == null) {
                    leave = v;
                }
            }
        }

        boolean b() {
            boolean so = a();
            while (eat("or")) {
                so |= a();
            }
            return so;
        }

        boolean a() {
            boolean so = c();
            while (eat("and")) {
                so &= c();
            }
            return so;
        }

        boolean c() {
            if (peek().equals("not") || peek().equals("(")) {
                if (open == 8) {
                    throw new Bad(3, at);
                }
                open++;
                boolean so;
                if (eat("not")) {
                    so = !c();
                } else {
                    must("(");
                    so = b();
                    must(")");
                }
                open--;
                return so;
            }
            int x = e();
            String sign = peek();
            if (!sign.equals("<") && !sign.equals("=") && !sign.equals(">")) {
                throw new Bad(1, at);
            }
            eat(sign);
            int y = e();
            return sign.equals("<") ? x < y : sign.equals("=") ? x == y : x > y;
        }

        int e() {
            int v = t();
            while (true) {
                if (eat("+")) {
                    v += t();
                } else if (eat("-")) {
                    v -= t();
                } else {
                    return v;
                }
            }
        }

        int t() {
            int v = u(false);
            while (true) {
                if (eat("*")) {
                    v *= u(false);
                } else if (eat("/")) {
                    v /= u(true);
                } else {
                    return v;
                }
            }
        }

        int u(boolean divisor) {
            String token = peek();
            if (token.matches("[0-9]{1,4}")) {
                int v = Integer.parseInt(token);
                if (divisor && v == 0) {
                    throw new Bad(2, at);
                }
                eat(token);
                return v;
            }
            for (int i = 6; i < WORDS.length && !divisor; i++) {
                if (eat(WORDS[i])) {
                    return facts[i - 6];
                }
            }
            throw new Bad(1, at);
        }
    }

    int way(int k) {
        fault = 0;
        place = -1;
        String text = tape;
        tape = "";
        if (!in(k, 0, 5)) {
            return -1;
        }
        Text read = new Text(text, new int[7]);
        try {
            read.all();
        } catch (Bad bad) {
            fault = bad.kind;
            place = bad.place;
            return -1;
        }
        ways[k] = text;
        return read.lines;
    }

    int fault(int what) {
        return what == 0 ? fault : what == 1 ? place : -1;
    }

    int come(int side, int sort, int way) {
        if (!isSort(side, sort) || !in(way, 0, 5) || people.size() == 40) {
            return -1;
        }
        people.add(new int[] {side, sort, way, -1, 0, 0, 0, 0, 0, 0});
        return people.size() - 1;
    }

    int state(int v) {
        int was = state;
        state = v;
        return was;
    }

    private int draw(int m) {
        state = 1664525 * state + 1013904223;
        return (int) ((state & 0xffffffffL) / 256 % m);
    }

    private Text mind(int[] p) {
        int best = 0;
        for (int j = 0; j < n[1 - p[SIDE]]; j++) {
            best = Math.max(best, look[1 - p[SIDE]][j]);
        }
        int wait = week + 1 >= setting[2] ? 0 : waits(week + 1)[p[SIDE]][p[SORT]];
        Text text = new Text(ways[p[WAY]], new int[] {week, p[WAITED], p[SORT], look[p[SIDE]][p[SORT]], best, setting[6], wait});
        text.all();
        return text;
    }

    private int takeOf(int[] p) {
        Integer take = mind(p).take;
        return take == null ? 0 : take;
    }

    private int worthOf(int[] p, int[] q) {
        return value(p[SIDE], p[SORT], q[SORT]);
    }

    int weeks(int count) {
        if (!in(count, 1, 20) || week + count > 99) {
            return -1;
        }
        for (int i = 0; i < count; i++) {
            again();
            meetings();
            for (int[] p : people) {
                p[p[OWN] < 0 ? WAITED : AGE]++;
            }
            week++;
        }
        return town(2);
    }

    private void again() {
        for (int[] p : people) {
            if (p[SIDE] == 1 || p[OWN] < 0 || p[AGE] < setting[4] || p[LOOKED] == 1) {
                continue;
            }
            int[] q = people.get(p[OWN]);
            p[LOOKED] = 1;
            if (worthOf(p, q) < p[TAKEN] || worthOf(q, p) < q[TAKEN]) {
                for (int[] r : new int[][] {p, q}) {
                    r[OWN] = -1;
                    r[AGE] = 0;
                    r[HAS_PARTED]++;
                }
                parted++;
            }
        }
    }

    private void meetings() {
        for (int h = 0; h < people.size(); h++) {
            int[] he = people.get(h);
            if (he[SIDE] == 1 || he[OWN] >= 0) {
                continue;
            }
            List<Integer> there = new ArrayList<>();
            for (int s = 0; s < people.size(); s++) {
                if (people.get(s)[SIDE] == 1 && (setting[5] == 1 || people.get(s)[OWN] < 0)) {
                    there.add(s);
                }
            }
            if (there.isEmpty()) {
                continue;
            }
            int s = there.get(draw(there.size()));
            int[] she = people.get(s);
            meetings++;
            int blur = setting[3];
            int heSees = worthOf(he, she) + (blur > 0 ? draw(2 * blur + 1) - blur : 0);
            int sheSees = worthOf(she, he) + (blur > 0 ? draw(2 * blur + 1) - blur : 0);
            boolean heWill = heSees >= takeOf(he);
            boolean sheWill;
            if (she[OWN] < 0) {
                sheWill = sheSees >= takeOf(she);
            } else {
                Integer leave = mind(she).leave;
                sheWill = leave != null && sheSees >= worthOf(she, people.get(she[OWN])) + leave;
            }
            if (heWill && sheWill) {
                if (she[OWN] >= 0) {
                    int[] before = people.get(she[OWN]);
                    before[OWN] = -1;
                    before[AGE] = 0;
                    before[WAS_LEFT]++;
                    left++;
                }
                he[OWN] = s;
                she[OWN] = h;
                for (int[] r : new int[][] {he, she}) {
                    r[AGE] = 0;
                    r[LOOKED] = 0;
                    r[TAKEN] = takeOf(r);
                }
                made++;
            }
        }
    }

    int one(int p, int what) {
        if (!in(p, 0, people.size() - 1) || !in(what, 0, 7)) {
            return NO_SUCH;
        }
        int[] r = people.get(p);
        switch (what) {
            case 0: return r[OWN];
            case 1: return r[WAITED];
            case 2: return r[AGE];
            case 3: return takeOf(r);
            case 4: return mind(r).leave == null ? -1 : mind(r).leave;
            case 5: return r[OWN] < 0 ? 0 : worthOf(r, people.get(r[OWN]));
            case 6: return r[WAS_LEFT];
            default: return r[HAS_PARTED];
        }
    }

    int all(int side, int sort, int what) {
        if (!in(side, 0, 1) || sort != -1 && !isSort(side, sort) || !in(what, 0, 3)) {
            return -1;
        }
        int[] r = new int[4];
        for (int[] p : people) {
            if (p[SIDE] == side && (sort == -1 || p[SORT] == sort)) {
                r[0]++;
                r[1] += p[OWN] < 0 ? 1 : 0;
                r[2] += p[WAITED];
                r[3] = Math.max(r[3], p[WAITED]);
            }
        }
        return r[what];
    }

    int town(int what) {
        int pairs = 0;
        for (int[] p : people) {
            pairs += p[OWN] >= 0 ? 1 : 0;
        }
        int[] r = {week, people.size(), pairs / 2, meetings, made, left, parted, state};
        return in(what, 0, 7) ? r[what] : -1;
    }

    boolean feast(int count) {
        if (!in(count, 1, 7)) {
            return false;
        }
        guests = count;
        likes = new int[2][7][7];
        prices = new int[7];
        return true;
    }

    boolean likes(int side, int k, int j, int v) {
        if (!in(side, 0, 1) || !in(k, 0, guests - 1) || !in(j, 0, guests - 1) || !in(v, 0, 99)) {
            return false;
        }
        likes[side][k][j] = v;
        return true;
    }

    private void arrange(int[] row, int man, List<int[]> rows) {
        if (man == guests) {
            rows.add(row.clone());
            return;
        }
        for (int w = 0; w < guests; w++) {
            boolean free = true;
            for (int i = 0; i < man; i++) {
                free &= row[i] != w;
            }
            if (free) {
                row[man] = w;
                arrange(row, man + 1, rows);
            }
        }
    }

    private List<int[]> every() {
        List<int[]> rows = new ArrayList<>();
        arrange(new int[guests], 0, rows);
        return rows;
    }

    /** Greater than for all others whom one likes less. */
    private int fondness(int side, int k, int j) {
        return likes[side][k][j] * 10 - j;
    }

    private boolean holds(int[] row) {
        int[] his = new int[guests];
        for (int m = 0; m < guests; m++) {
            his[row[m]] = m;
        }
        for (int m = 0; m < guests; m++) {
            for (int w = 0; w < guests; w++) {
                if (fondness(0, m, w) > fondness(0, m, row[m]) && fondness(1, w, m) > fondness(1, w, his[w])) {
                    return false;
                }
            }
        }
        return true;
    }

    private List<int[]> held() {
        List<int[]> rows = every();
        rows.removeIf(row -> !holds(row));
        return rows;
    }

    private int sum(int m, int w) {
        return likes[0][m][w] + likes[1][w][m];
    }

    private int total(int[] row) {
        int total = 0;
        for (int m = 0; m < guests; m++) {
            total += sum(m, row[m]);
        }
        return total;
    }

    private int[] most() {
        int[] best = null;
        for (int[] row : every()) {
            if (best == null || total(row) > total(best)) {
                best = row;
            }
        }
        return best;
    }

    int holds() {
        return held().size();
    }

    /** The pairing of all that hold in which everybody of a side has the best it has in any. */
    private int[] best(int side) {
        List<int[]> rows = held();
        for (int[] row : rows) {
            boolean best = true;
            for (int m = 0; m < guests; m++) {
                int w = row[m];
                for (int[] other : rows) {
                    for (int i = 0; i < guests; i++) {
                        if (side == 0 && i == m) {
                            best &= fondness(0, m, w) >= fondness(0, m, other[m]);
                        }
                        if (side == 1 && other[i] == w) {
                            best &= fondness(1, w, m) >= fondness(1, w, i);
                        }
                    }
                }
            }
            if (best) {
                return row;
            }
        }
        return null;
    }

    int pairing(int which, int k) {
        if (!in(k, -1, guests - 1) || which < 0 || in(which, 3, 9)) {
            return -1;
        }
        int[] row;
        if (which < 2) {
            row = best(which);
        } else if (which == 2) {
            row = most();
        } else {
            List<int[]> rows = held();
            if (which - 10 >= rows.size()) {
                return -1;
            }
            row = rows.get(which - 10);
        }
        return k == -1 ? total(row) : row[k];
    }

    int mended() {
        int best = 0;
        for (int[] row : held()) {
            best = Math.max(best, total(row));
        }
        return total(most()) - best;
    }

    boolean price(int w, int v) {
        if (!in(w, 0, guests - 1) || !in(v, 0, 999)) {
            return false;
        }
        prices[w] = v;
        return true;
    }

    int sums(int k, int what) {
        if (!in(what, 0, 2) || what > 0 && !in(k, 0, guests - 1)) {
            return -1;
        }
        int[] row = most();
        if (what == 0) {
            for (int m = 0; m < guests; m++) {
                for (int w = 0; w < guests; w++) {
                    if (sum(m, w) - prices[w] > sum(m, row[m]) - prices[row[m]]) {
                        return 0;
                    }
                }
            }
            return 1;
        }
        if (what == 1) {
            int want = 0;
            for (int w = 0; w < guests; w++) {
                want = sum(k, w) - prices[w] > sum(k, want) - prices[want] ? w : want;
            }
            return want;
        }
        // By the least prices each man keeps just what all have less without him.
        int man = 0;
        while (row[man] != k) {
            man++;
        }
        int without = 0;
        for (int[] other : every()) {
            without = Math.max(without, total(other) - sum(man, other[man]));
        }
        return sum(man, k) - (total(row) - without);
    }
}
