import java.util.Random;

/** Long runs of calls by chance (always the same ones), each answer held against the slow telling. */
public final class ModelTest {
    private static final Check check = new Check();
    private static final String[] PIECES = {"take ", "leave ", "when ", " or ", " and ", " not ", "week", "waited", "sort",
        "mine", "best", "told", "wait", ";", "+", "-", "*", "/", "(", ")", "<", "=", ">", "0", "7", "0012", "99999",
        " ", "\n", "x", "?", "takes"};

    private final Random random;
    private final NotYet fast = new NotYet();
    private final Slow slow = new Slow();
    private final int seed;
    private String said = "";

    private ModelTest(int seed) {
        this.seed = seed;
        random = new Random(seed);
    }

    public static void main(String[] args) {
        for (int seed = 0; seed < 400 && !check.failed(); seed++) {
            new ModelTest(seed).sortsRun();
            new ModelTest(seed).textRun();
            new ModelTest(seed).townRun();
        }
        for (int seed = 0; seed < 150 && !check.failed(); seed++) {
            new ModelTest(seed).feastRun();
        }
        for (int seed = 0; seed < 200 && !check.failed(); seed++) {
            new ModelTest(seed).anyRun();
        }
        check.close();
    }

    private int less(int n) {
        return random.nextInt(n);
    }

    private int near(int least, int most) {
        return less(12) == 0 ? wild() : least + less(most - least + 1);
    }

    private int wild() {
        int[] odd = {-2, -1, 0, 1, 7, 8, 40, 41, 100, 999, 1000, 1001, Integer.MAX_VALUE, Integer.MIN_VALUE};
        return odd[less(odd.length)];
    }

    private void due(String call, int got, int want) {
        check.due("seed " + seed + " " + call + " behind " + said, got, want);
    }

    private void due(String call, boolean got, boolean want) {
        due(call, got ? 1 : 0, want ? 1 : 0);
    }

    private void look(int side, int sort, int look, int often) {
        due("look", fast.look(side, sort, look, often), slow.look(side, sort, look, often));
    }

    private void set(int what, int v) {
        due("set", fast.set(what, v), slow.set(what, v));
    }

    private void worth(int side, int i, int j, int v) {
        due("worth", fast.worth(side, i, j, v), slow.worth(side, i, j, v));
    }

    private void sorts(int side, int n) {
        due("sorts", fast.sorts(side, n), slow.sorts(side, n));
    }

    private void tellSorts(boolean falling) {
        for (int side = 0; side < 2; side++) {
            int n = near(1, 6);
            sorts(side, n);
            int top = 1 + less(999);
            for (int sort = 0; sort < n && sort < 6; sort++) {
                look(side, sort, falling ? top : less(1000), less(2) == 0 ? less(400) : less(150));
                top -= less(top + 1) / 3;
            }
        }
    }

    private void sortsRun() {
        tellSorts(less(4) > 0);
        for (int call = 0; call < 120; call++) {
            int kind = less(14);
            if (kind == 0) {
                set(less(3), less(9) == 0 ? 60 : near(0, 12));
            } else if (kind == 1) {
                worth(near(0, 1), near(0, 5), near(0, 5), near(-1, 999));
            } else if (kind == 2) {
                look(near(0, 1), near(0, 5), near(0, 999), near(0, 300));
            } else if (kind == 3 && less(9) == 0) {
                tellSorts(true);
            } else if (kind < 8) {
                int k = near(0, 3);
                int what = near(0, 8);
                due("classes " + k + " " + what, fast.classes(k, what), slow.classes(k, what));
            } else if (kind < 11) {
                int side = near(0, 1);
                int sort = near(0, 5);
                int t = less(4) == 0 ? less(62) : near(0, 12);
                due("patience", fast.patience(side, sort, t), slow.patience(side, sort, t));
            } else {
                int i = near(0, 5);
                int j = near(0, 5);
                int t = near(1, 12);
                int what = near(0, 2);
                due("pairs", fast.pairs(i, j, t, what), slow.pairs(i, j, t, what));
            }
        }
    }

    private void way(int k, String text) {
        said = text;
        for (int at = 0; at < text.length(); at += 20) {
            int[] f = new int[5];
            for (int i = 0; i < 5; i++) {
                f[i] = Check.four(text, at + 4 * i);
            }
            due("feed", fast.feed(f[0], f[1], f[2], f[3], f[4]), slow.feed(f[0], f[1], f[2], f[3], f[4]));
        }
        due("end", fast.end(text.length()), slow.end(text.length()));
        due("way", fast.way(k), slow.way(k));
        due("fault", fast.fault(0), slow.fault(0));
        due("place", fast.fault(1), slow.fault(1));
    }

    private String unit() {
        return less(2) == 0 ? String.valueOf(less(less(4) == 0 ? 10000 : 60)) : PIECES[6 + less(7)];
    }

    private String sum() {
        StringBuilder text = new StringBuilder(unit());
        while (less(2) == 0) {
            int kind = less(4);
            text.append(kind == 3 ? " / " + (1 + less(30)) : " " + "+-*".charAt(kind) + " " + unit());
        }
        return text.toString();
    }

    private String claim(int depth) {
        int kind = less(8);
        if (kind == 0 && depth < 8) {
            return "not " + claim(depth + 1);
        }
        if (kind <= 2 && depth < 8) {
            return "(" + both(depth + 1) + ")";
        }
        return sum() + "<=>".charAt(less(3)) + sum();
    }

    private String both(int depth) {
        StringBuilder text = new StringBuilder(claim(depth));
        while (less(3) == 0) {
            text.append(less(2) == 0 ? " or " : " and ").append(claim(depth));
        }
        return text.toString();
    }

    private String lines() {
        StringBuilder text = new StringBuilder();
        int n = less(4) == 0 ? less(15) : less(4);
        for (int i = 0; i < n; i++) {
            text.append(less(3) > 0 ? "take " : "leave ").append(sum());
            if (less(3) > 0) {
                text.append(" when ").append(both(0));
            }
            text.append(less(3) == 0 ? " ;\n" : ";");
        }
        return text.length() > 400 ? text.substring(0, 400) : text.toString();
    }

    private String spoiled(String text) {
        StringBuilder spoilt = new StringBuilder(text);
        for (int i = less(3); i >= 0; i--) {
            int at = less(spoilt.length() + 1);
            if (less(3) == 0 && at < spoilt.length()) {
                spoilt.deleteCharAt(at);
            } else {
                spoilt.insert(at, PIECES[less(PIECES.length)]);
            }
        }
        return spoilt.length() > 400 ? spoilt.substring(0, 400) : spoilt.toString();
    }

    private String jumble() {
        StringBuilder text = new StringBuilder();
        for (int i = less(40); i > 0; i--) {
            text.append(PIECES[less(PIECES.length)]);
        }
        return text.toString();
    }

    private void textRun() {
        tellSorts(true);
        come(0, 0, 0);
        come(1, 0, 1);
        for (int i = 0; i < 20; i++) {
            int kind = less(5);
            way(near(0, 1), kind < 3 ? lines() : kind == 3 ? spoiled(lines()) : jumble());
            due("take", fast.one(0, 3), slow.one(0, 3));
            due("leave", fast.one(0, 4), slow.one(0, 4));
            due("her take", fast.one(1, 3), slow.one(1, 3));
            due("her leave", fast.one(1, 4), slow.one(1, 4));
            if (less(4) == 0) {
                set(6, less(2));
                weeks(1);
            }
        }
    }

    private void come(int side, int sort, int way) {
        due("come", fast.come(side, sort, way), slow.come(side, sort, way));
    }

    private void weeks(int n) {
        due("weeks", fast.weeks(n), slow.weeks(n));
    }

    private String plainWay() {
        int t = less(60);
        int l = less(40);
        String[] texts = {"", "take " + t + ";", "take " + t + "-waited*3;leave " + l + ";", "take wait;leave 0;",
            "take mine - 10 when told = 1; take " + t + "; leave " + l + " - 20;", "take best / 2 - week; leave 1 when week > 5;",
            "take best when waited < 3; take mine / 2; leave 5 when not told = 1;"};
        return texts[less(texts.length)];
    }

    private void smallSorts() {
        for (int side = 0; side < 2; side++) {
            int n = 1 + less(6);
            sorts(side, n);
            for (int sort = 0; sort < n; sort++) {
                look(side, sort, less(80), less(160));
            }
        }
    }

    private void townRun() {
        smallSorts();
        due("state", fast.state(seed * 7919), slow.state(seed * 7919));
        for (int k = 0; k < 6; k++) {
            way(k, plainWay());
        }
        for (int i = 2 + less(30); i > 0; i--) {
            come(less(2), less(3), less(6));
        }
        for (int call = 0; call < 60; call++) {
            townCall();
        }
    }

    private void townCall() {
        int kind = less(14);
        if (kind == 0) {
            set(2 + less(5), less(2) == 0 ? less(2) : less(30));
        } else if (kind == 1) {
            worth(less(2), less(6), less(6), less(80) - 1);
        } else if (kind == 2) {
            look(less(2), less(6), less(80), less(200));
        } else if (kind == 3) {
            way(less(6), plainWay());
        } else if (kind == 4) {
            come(near(0, 1), near(0, 4), near(0, 5));
        } else if (kind < 10) {
            weeks(less(10) == 0 ? wild() : 1 + less(5));
            seeAll();
        } else if (kind == 10) {
            set(5, 1);
        } else {
            int side = near(0, 1);
            int sort = near(-1, 5);
            int what = near(0, 3);
            due("all", fast.all(side, sort, what), slow.all(side, sort, what));
        }
    }

    private void seeAll() {
        for (int p = -1; p < 41; p++) {
            for (int what = -1; what < 9; what++) {
                due("one " + p + " " + what, fast.one(p, what), slow.one(p, what));
            }
        }
        for (int what = -1; what < 9; what++) {
            due("town " + what, fast.town(what), slow.town(what));
        }
    }

    private void feastRun() {
        int n = 1 + less(less(4) == 0 ? 7 : 5);
        due("feast", fast.feast(n), slow.feast(n));
        int range = 1 + less(less(2) == 0 ? 5 : 100);
        for (int side = 0; side < 2; side++) {
            for (int k = 0; k < n; k++) {
                for (int j = 0; j < n; j++) {
                    int v = less(range);
                    due("likes", fast.likes(side, k, j, v), slow.likes(side, k, j, v));
                }
            }
        }
        seeFeast(n);
        for (int i = 0; i < 3; i++) {
            int side = near(0, 1);
            int k = near(0, n - 1);
            int j = near(0, n - 1);
            int v = near(0, 99);
            due("likes", fast.likes(side, k, j, v), slow.likes(side, k, j, v));
            int w = near(0, n - 1);
            int price = near(0, range);
            due("price", fast.price(w, price), slow.price(w, price));
        }
        seeFeast(n);
        pay(n);
    }

    private void seeFeast(int n) {
        int holds = slow.holds();
        due("holds", fast.holds(), holds);
        for (int which = -1; which < 12 + holds; which++) {
            int k = less(n + 2) - 1;
            due("pairing " + which + " " + k, fast.pairing(which, k), slow.pairing(which, k));
        }
        for (int k = -1; k <= n; k++) {
            for (int which = 0; which < 3; which++) {
                due("pairing " + which + " " + k, fast.pairing(which, k), slow.pairing(which, k));
                due("sums " + which + " " + k, fast.sums(k, which), slow.sums(k, which));
            }
        }
        due("mended", fast.mended(), slow.mended());
    }

    /** The least prices hold, and none of them can be less. */
    private void pay(int n) {
        for (int w = 0; w < n; w++) {
            fast.price(w, fast.sums(w, 2));
        }
        due("least prices hold", fast.sums(0, 0), 1);
        for (int w = 0; w < n; w++) {
            int least = fast.sums(w, 2);
            due("one less", fast.price(w, least - 1), least > 0);
            due("does not hold", fast.sums(0, 0), least > 0 ? 0 : 1);
            fast.price(w, least);
        }
    }

    /** Any call with any arguments answers. */
    private void anyRun() {
        for (int call = 0; call < 300; call++) {
            int a = odd();
            int b = odd();
            int c = odd();
            int d = odd();
            switch (less(25)) {
                case 0: sorts(a, b); break;
                case 1: look(a, b, c, d); break;
                case 2: worth(a, b, c, d); break;
                case 3: set(a, b); break;
                case 4: due("classes", fast.classes(a, b), slow.classes(a, b)); break;
                case 5: due("patience", fast.patience(a, b, c), slow.patience(a, b, c)); break;
                case 6: due("pairs", fast.pairs(a, b, c, d), slow.pairs(a, b, c, d)); break;
                case 7: due("feed", fast.feed(a, b, c, d, a), slow.feed(a, b, c, d, a)); break;
                case 8: due("end", fast.end(a), slow.end(a)); break;
                case 9: due("way", fast.way(a), slow.way(a)); break;
                case 10: due("fault", fast.fault(a), slow.fault(a)); break;
                case 11: come(a, b, c); break;
                case 12: due("state", fast.state(a), slow.state(a)); break;
                case 13: weeks(a); break;
                case 14: due("one", fast.one(a, b), slow.one(a, b)); break;
                case 15: due("all", fast.all(a, b, c), slow.all(a, b, c)); break;
                case 16: due("town", fast.town(a), slow.town(a)); break;
                case 17: due("feast", fast.feast(Math.min(a, 4)), slow.feast(Math.min(a, 4))); break;
                case 18: due("likes", fast.likes(a, b, c, d), slow.likes(a, b, c, d)); break;
                case 19: due("holds", fast.holds(), slow.holds()); break;
                case 20: due("pairing", fast.pairing(a, b), slow.pairing(a, b)); break;
                case 21: due("mended", fast.mended(), slow.mended()); break;
                case 22: due("price", fast.price(a, b), slow.price(a, b)); break;
                case 23: due("sums", fast.sums(a, b), slow.sums(a, b)); break;
                default: come(less(2), 0, 0); break;
            }
        }
    }

    private int odd() {
        return less(4) == 0 ? wild() : less(8) == 0 ? random.nextInt() : less(5);
    }
}
