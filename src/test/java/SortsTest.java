/** Promises 1 to 8: a new object, SORTS, what is told of them, CLASSES, WAIT and PAIRS by weeks. */
public final class SortsTest {
    private static final int NO_SUCH = -10000000;
    private static final Check check = new Check();

    public static void main(String[] args) {
        newObject();
        sorts();
        look();
        worth();
        set();
        classes();
        classesAreExact();
        sixClasses();
        patience();
        sixtyWeeks();
        pairs();
        check.close();
    }

    private static void newObject() {
        NotYet x = new NotYet();
        check.due("1 people", x.town(1), 0);
        check.due("1 weeks", x.town(0), 0);
        check.due("1 third sort of 0", x.look(0, 2, 0, 0), true);
        check.due("1 third sort of 1", x.look(1, 2, 0, 0), true);
        check.due("1 no fourth of 0", x.look(0, 3, 0, 0), false);
        check.due("1 no fourth of 1", x.look(1, 3, 0, 0), false);
        check.due("1 sorts in no class", x.classes(0, 7), 3);
        check.due("1 state", x.state(0), 0);
        check.due("1 tape", x.end(1), false);
        check.due("1 last week", x.patience(0, 0, 10), 0);
        check.due("1 behind the last week", x.patience(0, 0, 11), -1);
        check.due("1 guests", x.likes(0, 2, 2, 0), true);
        check.due("1 no fourth guest", x.likes(0, 3, 0, 0), false);
        check.due("1 fault", x.fault(0), 0);
        check.due("1 place", x.fault(1), -1);
        check.due("1 none", NotYet.NONE, -1);
    }

    private static void sorts() {
        NotYet x = new NotYet();
        check.due("2 side", x.sorts(-1, 3), false);
        check.due("2 side", x.sorts(2, 3), false);
        check.due("2 none", x.sorts(0, 0), false);
        check.due("2 seven", x.sorts(1, 7), false);
        check.due("2 six", x.sorts(1, 6), true);
        check.due("2 sixth", x.look(1, 5, 9, 9), true);
        check.due("2 not the other side", x.look(0, 3, 0, 0), false);
        x.set(0, 0);
        x.set(2, 2);
        x.look(0, 0, 100, 500);
        x.look(1, 0, 100, 500);
        x.worth(0, 0, 0, 300);
        x.worth(1, 0, 0, 400);
        check.due("2 told to 0", x.patience(0, 0, 1), 150);
        check.due("2 told to 1", x.patience(1, 0, 1), 200);
        check.due("2 wrong one does nothing", x.sorts(0, 7), false);
        check.due("2 still told", x.patience(0, 0, 1), 150);
        check.due("2 again", x.sorts(0, 2), true);
        check.due("2 to it is untold", x.patience(0, 0, 1), 50);
        check.due("2 its look is 0", x.patience(1, 0, 1), 0);
        x.look(0, 0, 100, 500);
        check.due("2 of it is untold", x.patience(1, 0, 1), 50);
        x.look(0, 1, 0, 500);
        check.due("2 its often is 0", x.sorts(0, 2) && x.look(0, 1, 0, 999), true);
        x.come(1, 0, 0);
        check.due("2 people of one side", x.sorts(0, 2), false);
        check.due("2 people of the other", x.sorts(1, 2), false);
    }

    private static void look() {
        NotYet x = new NotYet();
        check.due("3", x.look(0, 0, 999, 999), true);
        check.due("3 edge", x.look(0, 1, 0, 1), true);
        check.due("3 1001", x.look(0, 2, 5, 1), false);
        check.due("3 1000", x.look(0, 2, 5, 0), true);
        check.due("3 own often is put again", x.look(0, 0, 7, 999), true);
        check.due("3 other side", x.look(1, 0, 7, 999), true);
        check.due("3", x.look(-1, 0, 0, 0), false);
        check.due("3", x.look(2, 0, 0, 0), false);
        check.due("3", x.look(0, -1, 0, 0), false);
        check.due("3", x.look(0, 3, 0, 0), false);
        check.due("3", x.look(0, 0, -1, 0), false);
        check.due("3", x.look(0, 0, 1000, 0), false);
        check.due("3", x.look(0, 0, 0, -1), false);
        check.due("3", x.look(0, 0, 0, 1000), false);
        x.set(0, 0);
        x.set(2, 1);
        x.look(1, 0, 500, 500);
        check.due("3 one that can't be", x.look(1, 1, 999, 501), false);
        check.due("3 does nothing", x.patience(0, 0, 0), 250);
    }

    private static void worth() {
        NotYet x = new NotYet();
        x.sorts(0, 2);
        x.set(0, 0);
        x.set(2, 1);
        x.look(1, 2, 100, 500);
        check.due("4 by look", x.patience(0, 1, 0), 50);
        check.due("4", x.worth(0, 1, 2, 999), true);
        check.due("4 told", x.patience(0, 1, 0), 499);
        check.due("4 only to it", x.patience(0, 0, 0), 50);
        check.due("4 nothing", x.worth(0, 1, 2, 0), true);
        check.due("4 told 0", x.patience(0, 1, 0), 0);
        check.due("4 untold", x.worth(0, 1, 2, -1), true);
        check.due("4 by look again", x.patience(0, 1, 0), 50);
        check.due("4", x.worth(0, 2, 0, 0), false);
        check.due("4", x.worth(1, 2, 1, 0), true);
        check.due("4", x.worth(1, 1, 2, 0), false);
        check.due("4", x.worth(0, -1, 0, 0), false);
        check.due("4", x.worth(0, 0, -1, 0), false);
        check.due("4", x.worth(0, 0, 0, -2), false);
        check.due("4", x.worth(0, 0, 0, 1000), false);
        check.due("4", x.worth(2, 0, 0, 0), false);
        check.due("4", x.worth(-1, 0, 0, 0), false);
    }

    private static void set() {
        int[] least = {0, 1, 1, 0, 1, 0, 0};
        int[] most = {99, 999, 60, 99, 99, 1, 1};
        NotYet x = new NotYet();
        for (int what = 0; what < 7; what++) {
            check.due("5 below", x.set(what, least[what] - 1), false);
            check.due("5 above", x.set(what, most[what] + 1), false);
            check.due("5 least", x.set(what, least[what]), true);
            check.due("5 most", x.set(what, most[what]), true);
        }
        check.due("5 what", x.set(-1, 1), false);
        check.due("5 what", x.set(7, 1), false);
        check.due("5 T", x.patience(0, 0, 60), 0);
        x.set(2, 1);
        check.due("5 T", x.patience(0, 0, 2), -1);
        check.due("5 T", x.patience(0, 0, 1), 0);
    }

    private static void classes() {
        NotYet x = new NotYet();
        x.sorts(0, 2);
        x.sorts(1, 1);
        x.set(0, 0);
        check.due("6 nobody met costs nothing", x.classes(0, 0), 1);
        check.due("6 of several the least", x.classes(0, 1), 0);
        check.due("6 above", x.classes(0, 3), 0);
        check.due("6 below", x.classes(0, 4), 100);
        check.due("6 left", x.classes(9, 7), 1);
        check.due("6 left", x.classes(-9, 8), 0);
        check.due("6 k is not asked", x.classes(-9, 0), 1);
        x.set(0, 1);
        check.due("6 below 0", x.classes(0, 0), 0);
        check.due("6", x.classes(0, 7), 2);
        x.look(0, 0, 10, 500);
        x.look(0, 1, 10, 500);
        x.look(1, 0, 10, 100);
        check.due("6 alike", x.classes(0, 0), 1);
        check.due("6 exactly 0 is not below", x.classes(0, 3), 0);
        check.due("6 both", x.classes(0, 1), 1);
        check.due("6", x.classes(0, 5), 9000);
        check.due("6", x.classes(0, 6), 1100);
        check.due("6 one side takes nobody", x.set(0, 2) ? x.classes(0, 0) : 9, 0);
        check.due("6 told worth is not asked", x.worth(0, 0, 0, 999) ? x.classes(0, 0) : 9, 0);
        x.look(0, 1, 11, 500);
        check.due("6 rising", x.classes(0, 0), -1);
        check.due("6 rising", x.classes(0, 1), NO_SUCH);
        check.due("6 rising", x.classes(0, 8), NO_SUCH);
        x.look(0, 1, 1, 1);
        check.due("6", x.classes(0, 9), NO_SUCH);
        check.due("6", x.classes(0, -1), NO_SUCH);
        check.due("6", x.classes(-1, 1), NO_SUCH);
        check.due("6", x.classes(Integer.MAX_VALUE, 1), NO_SUCH);
    }

    private static void classesAreExact() {
        NotYet x = new NotYet();
        x.sorts(0, 1);
        x.sorts(1, 2);
        x.set(0, 0);
        x.set(1, 1);
        x.look(1, 0, 100, 10);
        x.look(1, 1, 91, 20);
        // 1000 by 11 is 90 and 10 parts of 11; with the next 2820 by 31 is 90 and 30 parts of 31.
        check.due("6 quotients alike, parts greater", x.classes(0, 2), 1);
        x.look(1, 1, 90, 20);
        // 2800 by 31 is 90 and 10 parts of 31: less.
        check.due("6 quotients alike, parts less", x.classes(0, 2), 0);
        x.look(1, 0, 100, 20);
        x.look(1, 1, 0, 0);
        check.due("6 alike: the least", x.classes(0, 2), 0);
    }

    private static void sixClasses() {
        NotYet x = new NotYet();
        x.set(0, 0);
        x.set(1, 1);
        for (int side = 0; side < 2; side++) {
            x.sorts(side, 6);
            int look = 999;
            for (int sort = 0; sort < 6; sort++) {
                x.look(side, sort, look, 100);
                look /= 3;
            }
        }
        check.due("6 six", x.classes(0, 0), 6);
        for (int k = 0; k < 6; k++) {
            check.due("6 last of 0", x.classes(k, 1), k);
            check.due("6 last of 1", x.classes(k, 2), k);
            check.due("6 below", x.classes(k, 6), 101);
        }
        check.due("6 no seventh", x.classes(6, 1), NO_SUCH);
        check.due("6 all are in one", x.classes(0, 7), 0);
    }

    /** One who is met each week with a chance of a half of worth 900 waits by the mean of it and the wait, less 1. */
    private static void sixtyWeeks() {
        NotYet x = new NotYet();
        x.set(2, 60);
        x.look(1, 0, 900, 500);
        int wait = 0;
        for (int t = 60; t >= 0; t--) {
            check.due("7 behind " + t, x.patience(0, 0, t), wait);
            wait = (500 * 900 + 500 * wait) / 1000 - 1;
        }
        check.due("7", x.patience(0, 0, 61), -1);
    }

    private static void patience() {
        NotYet x = new NotYet();
        x.sorts(0, 1);
        x.sorts(1, 2);
        x.set(2, 3);
        x.look(0, 0, 500, 400);
        x.look(1, 0, 900, 333);
        x.look(1, 1, 100, 333);
        check.due("7 last", x.patience(0, 0, 3), 0);
        // 333 * 900 + 333 * 100 = 333000
        check.due("7 two", x.patience(0, 0, 2), 332);
        check.due("7 her two", x.patience(1, 0, 2), 199);
        // 333 * 900 + 667 * 332 = 521144
        check.due("7 one", x.patience(0, 0, 1), 520);
        // 400 * 500 + 600 * 199 = 319400
        check.due("7 her one", x.patience(1, 0, 1), 318);
        check.due("7 refused one waits", x.patience(1, 1, 1), 198);
        // 333 * 900 + 667 * 520 = 646540
        check.due("7 nought", x.patience(0, 0, 0), 645);
        x.set(0, 99);
        check.due("7 cost", x.patience(0, 0, 2), 234);
        check.due("7", x.patience(0, 0, -1), -1);
        check.due("7", x.patience(0, 0, 4), -1);
        check.due("7", x.patience(0, 1, 0), -1);
        check.due("7", x.patience(0, -1, 0), -1);
        check.due("7", x.patience(-1, 0, 0), -1);
        check.due("7", x.patience(2, 0, 0), -1);
        x.look(0, 0, 100, 400);
        check.due("7 not below 0", x.patience(1, 0, 2), 0);
    }

    private static void pairs() {
        NotYet x = new NotYet();
        x.sorts(0, 1);
        x.sorts(1, 2);
        x.set(2, 2);
        x.set(0, 0);
        x.look(0, 0, 500, 400);
        x.look(1, 0, 900, 333);
        x.look(1, 1, 333, 0);
        x.worth(0, 0, 1, 299);
        check.due("8 wait", x.patience(0, 0, 1), 299);
        check.due("8 at least", x.pairs(0, 1, 1, 1), 1);
        check.due("8 both", x.pairs(0, 1, 1, 0), 1);
        x.worth(0, 0, 1, 298);
        check.due("8 below", x.pairs(0, 1, 1, 1), 0);
        check.due("8 she would", x.pairs(0, 1, 1, 2), 1);
        check.due("8 not both", x.pairs(0, 1, 1, 0), 0);
        check.due("8 last week", x.pairs(0, 1, 2, 0), 1);
        x.worth(1, 1, 0, 0);
        check.due("8 she has no wait", x.pairs(0, 1, 2, 2), 1);
        check.due("8", x.pairs(0, 0, 0, 0), -1);
        check.due("8", x.pairs(0, 0, 3, 0), -1);
        check.due("8", x.pairs(1, 0, 1, 0), -1);
        check.due("8", x.pairs(0, 2, 1, 0), -1);
        check.due("8", x.pairs(-1, 0, 1, 0), -1);
        check.due("8", x.pairs(0, -1, 1, 0), -1);
        check.due("8", x.pairs(0, 0, 1, 3), -1);
        check.due("8", x.pairs(0, 0, 1, -1), -1);
    }
}
