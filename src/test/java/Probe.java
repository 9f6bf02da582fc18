import java.util.ArrayList;
import java.util.List;

/** A town and a FEAST in which everything is told, and all that later calls can show of it. */
final class Probe {
    private static final String[] WAYS = {
        "take 40 - waited * 3; leave 5 when told = 1;", "take wait; leave 2;",
        "take best - 40 when week > 2; take mine / 4;", "take 50; leave 0 - 10;", "take 60;", ""};

    static final int PEOPLE = 8;

    private Probe() {
    }

    /** Some 140 calls on a new object. */
    static NotYet town() {
        NotYet x = new NotYet();
        x.sorts(0, 4);
        x.sorts(1, 2);
        int[][] looks = {{90, 60, 60, 20}, {80, 30}};
        int[][] oftens = {{100, 200, 300, 50}, {250, 450}};
        for (int side = 0; side < 2; side++) {
            for (int sort = 0; sort < looks[side].length; sort++) {
                x.look(side, sort, looks[side][sort], oftens[side][sort]);
            }
        }
        x.worth(0, 1, 1, 55);
        x.worth(1, 0, 2, 70);
        int[] settings = {2, 150, 7, 40, 2, 1, 1};
        for (int what = 0; what < settings.length; what++) {
            x.set(what, settings[what]);
        }
        for (int k = 0; k < 6; k++) {
            Check.way(x, k, WAYS[k]);
        }
        x.state(12345);
        for (int i = 0; i < PEOPLE; i++) {
            x.come(i % 2, i / 2 % 2, i % 6);
        }
        x.weeks(3);
        tellFeast(x);
        Check.way(x, 0, "take 5/0;");
        Check.tell(x, "take 7;leave 8;tak");
        return x;
    }

    private static void tellFeast(NotYet x) {
        x.feast(4);
        for (int k = 0; k < 4; k++) {
            for (int j = 0; j < 4; j++) {
                if (k != 3 || j != 3) {
                    x.likes(0, k, j, (17 * k + 29 * j + 5) % 41);
                    x.likes(1, j, k, (23 * k + 13 * j + 7) % 37);
                }
            }
        }
        for (int w = 0; w < 4; w++) {
            x.price(w, x.sums(w, 2));
        }
    }

    /** Some 310 answers; the last ones change the object. */
    static List<Integer> see(NotYet x) {
        List<Integer> seen = new ArrayList<>();
        seeSorts(x, seen);
        seePeople(x, seen);
        seeFeast(x, seen);
        seen.add(x.fault(0));
        seen.add(x.fault(1));
        seeTape(x, seen);
        seeWeeks(x, seen);
        return seen;
    }

    private static void seeSorts(NotYet x, List<Integer> seen) {
        for (int k = 0; k < 2; k++) {
            for (int what = 0; what < 9; what++) {
                seen.add(x.classes(k, what));
            }
        }
        for (int i = 0; i < 7; i++) {
            seen.add(x.patience(0, i, 0));
            seen.add(x.patience(1, i, 0));
        }
        for (int t = 0; t < 9; t++) {
            seen.add(x.patience(0, 1, t));
            seen.add(x.patience(1, 0, t));
        }
        for (int i = 0; i < 4; i++) {
            for (int j = 0; j < 2; j++) {
                seen.add(x.pairs(i, j, 5, 0));
                seen.add(x.pairs(i, j, 2, 1));
                seen.add(x.pairs(i, j, 2, 2));
            }
        }
    }

    private static void seePeople(NotYet x, List<Integer> seen) {
        for (int p = 0; p <= PEOPLE; p++) {
            for (int what = 0; what < 8; what++) {
                seen.add(x.one(p, what));
            }
        }
        for (int what = 0; what < 8; what++) {
            seen.add(x.town(what));
        }
        for (int what = 0; what < 4; what++) {
            seen.add(x.all(0, -1, what));
            seen.add(x.all(1, -1, what));
        }
    }

    private static void seeFeast(NotYet x, List<Integer> seen) {
        seen.add(x.holds());
        seen.add(x.mended());
        for (int k = -1; k < 5; k++) {
            for (int which = 0; which < 3; which++) {
                seen.add(x.pairing(which, k));
                seen.add(x.sums(k, which));
            }
            seen.add(x.pairing(10, k));
        }
    }

    private static void seeTape(NotYet x, List<Integer> seen) {
        int blanks = Check.four("", 0);
        seen.add(x.feed(blanks, blanks, blanks, blanks, blanks));
        x.end(15);
        seen.add(x.way(5));
        seen.add(x.fault(1));
        seen.add(x.one(5, 3));
        seen.add(x.one(5, 4));
    }

    private static void seeWeeks(NotYet x, List<Integer> seen) {
        for (int i = 0; i < 6; i++) {
            seen.add(x.weeks(1));
            for (int p = 0; p < PEOPLE; p++) {
                seen.add(x.one(p, 0));
            }
            for (int what = 0; what < 8; what++) {
                seen.add(x.town(what));
            }
        }
    }
}
