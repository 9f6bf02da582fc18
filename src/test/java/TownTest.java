/** Promises 13 to 18: PEOPLE, STATE, WEEKS and what is told of them. */
public final class TownTest {
    private static final int NO_SUCH = -10000000;
    private static final Check check = new Check();

    public static void main(String[] args) {
        come();
        state();
        weeks();
        draws();
        blur();
        later();
        laterAsItWas();
        leaving();
        leavingNeedsBoth();
        freedOneMeetsStill();
        partedOnesMeetAtOnce();
        one();
        all();
        town();
        check.close();
    }

    private static int next(int state) {
        return 1664525 * state + 1013904223;
    }

    private static void come() {
        NotYet x = new NotYet();
        check.due("13 side", x.come(2, 0, 0), -1);
        check.due("13 side", x.come(-1, 0, 0), -1);
        check.due("13 sort", x.come(0, 3, 0), -1);
        check.due("13 sort", x.come(0, -1, 0), -1);
        check.due("13 way", x.come(0, 0, 6), -1);
        check.due("13 way", x.come(0, 0, -1), -1);
        for (int i = 0; i < 40; i++) {
            check.due("13", x.come(i % 2, i % 3, i % 6), i);
        }
        check.due("13 the 41st", x.come(0, 0, 0), -1);
        check.due("13 people", x.town(1), 40);
        check.due("13 single", x.one(39, 0), -1);
        check.due("13 waited", x.one(39, 1), 0);
    }

    private static void state() {
        NotYet x = new NotYet();
        check.due("14", x.state(7), 0);
        check.due("14", x.state(Integer.MIN_VALUE), 7);
        check.due("14", x.town(7), Integer.MIN_VALUE);
        check.due("14", x.state(-1), Integer.MIN_VALUE);
        x.come(0, 0, 0);
        x.weeks(1);
        check.due("14 no draw without a meeting", x.town(7), -1);
        x.come(1, 0, 0);
        x.weeks(1);
        check.due("14 a draw of one is a draw", x.town(7), next(-1));
    }

    private static void weeks() {
        NotYet x = new NotYet();
        check.due("15", x.weeks(0), -1);
        check.due("15", x.weeks(21), -1);
        check.due("15", x.weeks(-1), -1);
        check.due("15", x.weeks(Integer.MAX_VALUE), -1);
        check.due("15 nobody", x.weeks(20), 0);
        x.come(0, 0, 0);
        check.due("15 one alone", x.weeks(20), 0);
        check.due("15 waited", x.one(0, 1), 20);
        x.come(1, 0, 0);
        check.due("15 a pair", x.weeks(20), 1);
        check.due("15 age", x.one(0, 2), 20);
        check.due("15", x.weeks(20), 1);
        check.due("15 100", x.weeks(20), -1);
        check.due("15 none went by", x.town(0), 80);
        check.due("15 99", x.weeks(19), 1);
        check.due("15 no more", x.weeks(1), -1);
        check.due("15", x.town(0), 99);
    }

    /** Whom one meets is by number among those who are there. */
    private static void draws() {
        for (int state = -5; state < 30; state++) {
            NotYet x = new NotYet();
            x.come(1, 0, 0);
            x.come(0, 0, 0);
            x.come(1, 0, 0);
            x.come(1, 0, 0);
            x.state(state);
            x.weeks(1);
            int[] women = {0, 2, 3};
            check.due("15 by draw", x.one(1, 0), women[(next(state) >>> 8) % 3]);
            x.come(0, 0, 0);
            x.state(state);
            x.weeks(1);
            int had = x.one(1, 0);
            int[] single = had == 0 ? new int[] {2, 3} : had == 2 ? new int[] {0, 3} : new int[] {0, 2};
            check.due("15 of those who are single", x.one(4, 0), single[(next(state) >>> 8) % 2]);
            x.come(0, 0, 0);
            x.come(0, 0, 0);
            x.weeks(1);
            check.due("15 the first has the last one", x.one(5, 0) >= 0, true);
            check.due("15 none is left", x.one(6, 0), -1);
            check.due("15 no meeting", x.town(3), 3);
            x.set(5, 1);
            x.state(state);
            x.weeks(1);
            check.due("15 of all", x.town(3), 4);
            check.due("15 never leaves", x.town(5), 0);
        }
    }

    private static void blur() {
        for (int state = 0; state < 60; state++) {
            NotYet x = new NotYet();
            x.look(0, 0, 100, 0);
            x.look(1, 0, 50, 0);
            x.set(3, 7);
            Check.way(x, 0, "take 53;");
            Check.way(x, 1, "take 98;");
            x.come(0, 0, 0);
            x.come(1, 0, 1);
            x.state(state);
            int first = next(state);
            int his = next(first);
            int hers = next(his);
            boolean pair = 50 + (his >>> 8) % 15 - 7 >= 53 && 100 + (hers >>> 8) % 15 - 7 >= 98;
            check.due("15 sees wrongly", x.weeks(1), pair ? 1 : 0);
            check.due("15 three draws", x.town(7), hers);
            check.due("15 its worth is as it is", x.one(0, 5), pair ? 50 : 0);
            if (pair) {
                x.set(3, 0);
                check.due("15 knows", x.weeks(2), 1);
                check.due("15 parts", x.weeks(1), 0);
                check.due("16 parted", x.one(0, 7), 1);
                check.due("16 parted", x.one(1, 7), 1);
                check.due("16 not left", x.one(0, 6), 0);
                check.due("18 parted", x.town(6), 1);
            }
        }
    }

    private static void later() {
        for (int later = 1; later < 6; later++) {
            NotYet x = new NotYet();
            x.look(0, 0, 10, 0);
            x.look(1, 0, 10, 0);
            x.set(4, later);
            Check.way(x, 0, "take 10;");
            x.come(0, 0, 0);
            x.come(1, 0, 1);
            check.due("15 a pair", x.weeks(1), 1);
            x.worth(0, 0, 0, 9);
            for (int i = 1; i < later; i++) {
                check.due("15 not yet", x.weeks(1), 1);
            }
            check.due("15 looks again", x.weeks(1), 0);
            check.due("15 waited", x.one(0, 1), 1);
        }
        NotYet x = new NotYet();
        x.look(1, 0, 10, 0);
        Check.way(x, 0, "take 10;");
        x.come(0, 0, 0);
        x.come(1, 0, 1);
        x.weeks(4);
        x.worth(0, 0, 0, 9);
        check.due("15 looks once", x.weeks(20), 1);
    }

    private static void laterAsItWas() {
        NotYet x = new NotYet();
        x.look(0, 0, 5, 0);
        x.look(1, 0, 10, 0);
        Check.way(x, 0, "take 10 - week;");
        x.come(1, 0, 0);
        x.weeks(5);
        x.come(0, 0, 1);
        x.come(0, 0, 1);
        check.due("15 she takes 5", x.weeks(1), 1);
        Check.way(x, 0, "take 999;");
        check.due("15 as it was", x.weeks(20), 1);
        check.due("16 now", x.one(0, 3), 999);
    }

    /** A woman with one of worth 10 and a leave of 5. */
    private static NotYet courted(int worthOfNext, String hisWay) {
        NotYet x = new NotYet();
        x.look(0, 0, 10, 0);
        x.look(0, 1, worthOfNext, 0);
        x.look(1, 0, 20, 0);
        Check.way(x, 1, "take 8; leave 5;");
        Check.way(x, 2, hisWay);
        x.come(0, 0, 0);
        x.come(1, 0, 1);
        x.weeks(1);
        x.set(5, 1);
        x.come(0, 1, 2);
        return x;
    }

    private static void leaving() {
        NotYet x = courted(15, "");
        check.due("15 leaves", x.weeks(1), 1);
        check.due("15 for him", x.one(1, 0), 2);
        check.due("15 a new pair", x.one(1, 2), 1);
        check.due("16 left", x.one(0, 6), 1);
        check.due("16 she was not", x.one(1, 6), 0);
        check.due("16 waited", x.one(0, 1), 1);
        check.due("18 left", x.town(5), 1);
        check.due("18 made", x.town(4), 2);
        check.due("18 meetings", x.town(3), 2);
        x.worth(1, 0, 1, 8);
        check.due("15 she takes 8 still", x.weeks(2), 1);
        check.due("15 has him", x.one(1, 0), 2);
        NotYet y = courted(14, "");
        y.weeks(5);
        check.due("15 not for 14", y.one(1, 0), 0);
        check.due("18 none left", y.town(5), 0);
        check.due("18 but they met", y.town(3), 6);
    }

    private static void leavingNeedsBoth() {
        NotYet x = courted(99, "take 21;");
        x.weeks(1);
        check.due("15 he would not", x.one(1, 0), 0);
        NotYet y = courted(99, "take 20;");
        y.weeks(1);
        check.due("15 he would", y.one(1, 0), 2);
        y.worth(1, 0, 1, 7);
        Check.way(y, 1, "take 0;");
        y.weeks(2);
        check.due("15 not yet", y.one(1, 0), 2);
        y.set(5, 0);
        y.worth(0, 0, 0, 0);
        y.weeks(1);
        check.due("15 below her take as it was", y.one(1, 7), 1);
        NotYet z = courted(7, "");
        Check.way(z, 1, "take 8; leave 0 - 3;");
        z.weeks(1);
        check.due("15 for one worth less", z.one(1, 0), 2);
        Check.way(z, 1, "take 8;");
        z.weeks(2);
        check.due("15 still", z.one(1, 0), 2);
        z.weeks(1);
        check.due("15 her take counts later", z.town(6), 1);
    }

    private static void freedOneMeetsStill() {
        NotYet x = new NotYet();
        x.look(0, 0, 10, 0);
        x.look(0, 1, 50, 0);
        Check.way(x, 1, "leave 1;");
        x.come(0, 1, 0);
        x.come(1, 0, 1);
        x.come(0, 0, 0);
        x.set(5, 1);
        Check.way(x, 0, "take 1 when week = 0 and sort = 1;");
        x.weeks(1);
        check.due("15 the second has her", x.one(1, 0), 2);
        check.due("15 two met", x.town(3), 2);
        x.weeks(1);
        check.due("15 the first has her now", x.one(1, 0), 0);
        check.due("15 the freed one met still", x.town(3), 4);
        check.due("15 waited", x.one(2, 1), 1);
        check.due("15 left", x.one(2, 6), 1);
    }

    private static void partedOnesMeetAtOnce() {
        NotYet x = new NotYet();
        x.look(1, 0, 10, 0);
        x.set(4, 1);
        Check.way(x, 0, "take 10 when week = 0;");
        x.come(0, 0, 0);
        x.come(1, 0, 1);
        x.weeks(1);
        x.look(1, 0, 9, 0);
        check.due("15 part and meet in a week", x.weeks(1), 1);
        check.due("18 parted", x.town(6), 1);
        check.due("18 made", x.town(4), 2);
        check.due("16 age", x.one(0, 2), 1);
        check.due("16 waited", x.one(0, 1), 0);
    }

    private static void one() {
        NotYet x = new NotYet();
        check.due("16 nobody", x.one(0, 0), NO_SUCH);
        x.come(0, 0, 0);
        check.due("16", x.one(1, 0), NO_SUCH);
        check.due("16", x.one(-1, 0), NO_SUCH);
        check.due("16", x.one(0, 8), NO_SUCH);
        check.due("16", x.one(0, -1), NO_SUCH);
        check.due("16 single", x.one(0, 0), -1);
        check.due("16 take", x.one(0, 3), 0);
        check.due("16 never", x.one(0, 4), -1);
        check.due("16 worth", x.one(0, 5), 0);
        x.come(1, 1, 0);
        x.look(1, 1, 30, 0);
        x.look(0, 0, 40, 0);
        x.worth(1, 1, 0, 70);
        x.weeks(2);
        check.due("16 own", x.one(0, 0), 1);
        check.due("16 own", x.one(1, 0), 0);
        check.due("16 age", x.one(1, 2), 2);
        check.due("16 worth", x.one(0, 5), 30);
        check.due("16 worth as it is told", x.one(1, 5), 70);
        check.due("16 left", x.one(0, 6), 0);
        check.due("16 parted", x.one(0, 7), 0);
    }

    private static void all() {
        NotYet x = new NotYet();
        check.due("17 none", x.all(0, -1, 3), 0);
        x.come(0, 0, 0);
        x.weeks(2);
        x.come(0, 2, 0);
        x.weeks(3);
        x.come(0, 0, 0);
        x.come(1, 1, 0);
        x.weeks(1);
        check.due("17 how many", x.all(0, -1, 0), 3);
        check.due("17 of a sort", x.all(0, 0, 0), 2);
        check.due("17 of no", x.all(0, 1, 0), 0);
        check.due("17 single", x.all(0, -1, 1), 2);
        check.due("17 single of a sort", x.all(0, 0, 1), 1);
        check.due("17 waited", x.all(0, -1, 2), 10);
        check.due("17 waited of a sort", x.all(0, 0, 2), 6);
        check.due("17 most", x.all(0, -1, 3), 5);
        check.due("17 most of a sort", x.all(0, 2, 3), 4);
        check.due("17 other side", x.all(1, -1, 0), 1);
        check.due("17 other side", x.all(1, 1, 1), 0);
        check.due("17", x.all(2, -1, 0), -1);
        check.due("17", x.all(-1, -1, 0), -1);
        check.due("17", x.all(0, 3, 0), -1);
        check.due("17", x.all(0, -2, 0), -1);
        check.due("17", x.all(0, 0, 4), -1);
        check.due("17", x.all(0, 0, -1), -1);
    }

    private static void town() {
        NotYet x = new NotYet();
        x.come(0, 0, 0);
        x.come(1, 0, 0);
        x.state(1);
        x.weeks(3);
        int[] want = {3, 2, 1, 1, 1, 0, 0, next(1)};
        for (int what = 0; what < 8; what++) {
            check.due("18 what " + what, x.town(what), want[what]);
        }
        check.due("18", x.town(8), -1);
        check.due("18", x.town(-1), -1);
    }
}
