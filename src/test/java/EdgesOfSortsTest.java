/** The edges that Terms 1 and 2 and promises 1 to 8 name, sentence by sentence. */
public final class EdgesOfSortsTest {
    private static final int NO_SUCH = -10000000;
    private static final int[] NOT_SIDES = {Integer.MIN_VALUE, -2, -1, 2, 3, Integer.MAX_VALUE};
    private static final Check check = new Check();

    public static void main(String[] args) {
        sides();
        quotients();
        newObject();
        howManySorts();
        sortsBegin();
        sortsUntell();
        sortsLeaveTheOtherSide();
        sortsAreSeenAtOnce();
        sortsWithPeople();
        looks();
        oftens();
        oftensTogether();
        oftensOfSixSorts();
        lookRefused();
        worthTold();
        worthUntold();
        worthRefused();
        settings();
        settingsAtFirst();
        settingsRefused();
        classesOfRisingLooks();
        classesGreatest();
        classesOfSeveralTheLeast();
        classesBelowNought();
        classesWhileBothHaveSorts();
        classesLeft();
        classesByLooksAlone();
        classesAsTheyAre();
        classesGreatNumbers();
        classesFull();
        classesEachFromItsOwn();
        classesNoneSuch();
        lastWeek();
        behindTheLastWeek();
        waitAtLeastNought();
        waitRestOfThousand();
        waitGreatest();
        waitOfSixtyWeeks();
        waitOfAllSorts();
        takesAtLeast();
        patienceRefused();
        pairsRefused();
        check.close();
    }

    /** A town of one SORT a SIDE without COST, in its last week. */
    private static NotYet plain() {
        NotYet x = new NotYet();
        x.sorts(0, 1);
        x.sorts(1, 1);
        x.set(0, 0);
        x.set(2, 1);
        return x;
    }

    /** LOOK as one of that SORT tells it. */
    private static int lookOf(NotYet x, int side, int sort) {
        Check.way(x, 5, "take mine;");
        return x.one(x.come(side, sort, 5), 3);
    }

    private static void sides() {
        check.by("SIDES are 0 and 1");
        for (int side : NOT_SIDES) {
            NotYet x = new NotYet();
            check.due("sorts", x.sorts(side, 2), false);
            check.due("look", x.look(side, 0, 1, 1), false);
            check.due("worth", x.worth(side, 0, 0, 1), false);
            check.due("patience", x.patience(side, 0, 0), -1);
            check.due("come", x.come(side, 0, 0), -1);
            check.due("all", x.all(side, -1, 0), -1);
            check.due("likes", x.likes(side, 0, 0, 1), false);
        }
        for (int side = 0; side < 2; side++) {
            NotYet x = new NotYet();
            check.due("sorts", x.sorts(side, 2), true);
            check.due("look", x.look(side, 0, 1, 1), true);
            check.due("worth", x.worth(side, 0, 0, 1), true);
            check.due("patience", x.patience(side, 0, 0), 0);
            check.due("come", x.come(side, 0, 0), 0);
            check.due("all", x.all(side, -1, 0), 1);
            check.due("likes", x.likes(side, 0, 0, 1), true);
        }
    }

    private static void quotients() {
        check.by("Quotients go downwards");
        NotYet x = plain();
        x.sorts(1, 3);
        x.look(1, 0, 999, 1);
        check.due("999 by 1000", x.patience(0, 0, 0), 0);
        x.look(1, 1, 1, 1);
        check.due("1000 by 1000", x.patience(0, 0, 0), 1);
        x.look(1, 1, 999, 1);
        x.look(1, 2, 1, 1);
        check.due("1999 by 1000", x.patience(0, 0, 0), 1);
        x.look(1, 2, 2, 1);
        check.due("2000 by 1000", x.patience(0, 0, 0), 2);
    }

    private static void newObject() {
        check.by("1: Three SORTS a SIDE, nobody there");
        for (int side = 0; side < 2; side++) {
            NotYet x = new NotYet();
            check.due("first", x.patience(side, 0, 0), 0);
            check.due("third", x.patience(side, 2, 0), 0);
            check.due("fourth", x.patience(side, 3, 0), -1);
            check.due("in no class", x.classes(0, 7 + side), 3);
            check.due("nobody", x.all(side, -1, 0), 0);
            check.due("nobody single", x.all(side, -1, 1), 0);
            check.due("nobody waited", x.all(side, -1, 2), 0);
            check.due("the most of nobody", x.all(side, -1, 3), 0);
        }
        NotYet x = new NotYet();
        check.due("no one", x.one(0, 0), NO_SUCH);
        for (int what = 0; what < 8; what++) {
            check.due("town " + what, x.town(what), 0);
        }
    }

    private static void howManySorts() {
        check.by("1: SORTS 0 .. n - 1 (n 1 .. 6; 3 at first)");
        for (int side = 0; side < 2; side++) {
            for (int n = 1; n <= 6; n++) {
                NotYet x = new NotYet();
                check.due("sorts", x.sorts(side, n), true);
                check.due("how many", x.classes(0, 7 + side), n);
                check.due("the last", x.look(side, n - 1, 1, 1), true);
                check.due("behind it", x.look(side, n, 1, 1), false);
                check.due("ahead of 0", x.look(side, -1, 1, 1), false);
            }
            for (int n : new int[] {Integer.MIN_VALUE, -1, 0, 7, 8, Integer.MAX_VALUE}) {
                NotYet x = new NotYet();
                check.due("sorts " + n, x.sorts(side, n), false);
                check.due("still the third", x.look(side, 2, 0, 0), true);
                check.due("still no fourth", x.look(side, 3, 0, 0), false);
            }
        }
    }

    private static void sortsBegin() {
        check.by("2: all its LOOKS, often are 0 then");
        for (int side = 0; side < 2; side++) {
            for (int n = 3; n <= 6; n++) {
                NotYet x = new NotYet();
                x.look(side, 0, 900, 500);
                x.look(side, 1, 800, 300);
                x.look(side, 2, 700, 200);
                check.due("again", x.sorts(side, n), true);
                check.due("often is 0", x.look(side, n - 1, 0, 999), true);
                check.due("often is 0", x.look(side, 0, 0, 1), true);
                for (int sort = 0; sort < n; sort++) {
                    check.due("LOOK is 0", lookOf(x, side, sort), 0);
                }
            }
            NotYet x = new NotYet();
            x.look(side, 2, 700, 999);
            x.sorts(side, 1);
            check.due("often of one that went", x.look(side, 0, 0, 999), true);
            x.sorts(side, 3);
            check.due("one that came again", lookOf(x, side, 2), 0);
        }
    }

    private static void sortsUntell() {
        check.by("2: what is told of WORTH of it and to it is untold then");
        for (int side = 0; side < 2; side++) {
            for (int teller = 0; teller < 2; teller++) {
                NotYet x = plain();
                x.worth(teller, 0, 0, 999);
                x.sorts(side, 1);
                x.look(0, 0, 100, 500);
                x.look(1, 0, 100, 500);
                check.due("untold", x.patience(teller, 0, 0), 50);
            }
            NotYet x = new NotYet();
            x.set(0, 0);
            x.set(2, 1);
            x.worth(0, 2, 2, 999);
            x.worth(1, 2, 2, 999);
            x.sorts(side, 1);
            x.sorts(side, 3);
            x.look(0, 2, 100, 500);
            x.look(1, 2, 100, 500);
            check.due("untold for one that came again", x.patience(0, 2, 0), 50);
            check.due("untold for one that came again", x.patience(1, 2, 0), 50);
        }
    }

    private static void sortsLeaveTheOtherSide() {
        check.by("2: its LOOKS, often");
        NotYet x = new NotYet();
        x.set(0, 0);
        x.look(1, 0, 30, 999);
        check.due("SIDE 0", x.sorts(0, 6), true);
        check.due("often of SIDE 1 stays", x.classes(0, 4), 1099);
        check.due("LOOK of SIDE 1 stays", x.classes(0, 3), 29970);
        check.due("SORTS of SIDE 1 stay", x.look(1, 3, 0, 0), false);
    }

    private static void sortsAreSeenAtOnce() {
        check.by("2: How many SORTS a SIDE has: what was asked before is not answered any more");
        for (int side = 0; side < 2; side++) {
            NotYet x = plain();
            x.look(0, 0, 500, 500);
            x.look(1, 0, 500, 500);
            check.due("told", x.patience(1 - side, 0, 0), 250);
            check.due("told", x.classes(0, 5 - 2 * side), 250000);
            x.sorts(side, 1);
            check.due("0", x.patience(1 - side, 0, 0), 0);
            check.due("0", x.classes(0, 5 - 2 * side), 0);
        }
    }

    private static void sortsWithPeople() {
        check.by("2: false, and nothing is done, if there are PEOPLE");
        for (int side = 0; side < 2; side++) {
            for (int theirs = 0; theirs < 2; theirs++) {
                NotYet x = new NotYet();
                x.look(side, 2, 70, 999);
                x.look(1 - side, 0, 10, 100);
                x.set(0, 0);
                x.worth(1 - side, 0, 2, 900);
                x.come(theirs, 0, 0);
                check.due("as many", x.sorts(side, 3), false);
                check.due("more", x.sorts(side, 6), false);
                check.due("fewer", x.sorts(side, 1), false);
                check.due("no more", x.look(side, 3, 0, 0), false);
                check.due("LOOK stays", lookOf(x, side, 2), 70);
                check.due("often and WORTH stay", x.patience(1 - side, 0, 9), 899);
            }
        }
    }

    private static void looks() {
        check.by("1: a LOOK 0 .. 999 (0 at first)");
        for (int side = 0; side < 2; side++) {
            NotYet x = new NotYet();
            check.due("at first", lookOf(x, side, 0), 0);
            check.due("999", x.look(side, 0, 999, 0), true);
            check.due("999", lookOf(x, side, 0), 999);
            for (int look : new int[] {Integer.MIN_VALUE, -1, 1000, Integer.MAX_VALUE}) {
                check.due("look " + look, x.look(side, 0, look, 0), false);
            }
            check.due("999 still", lookOf(x, side, 0), 999);
            check.due("0", x.look(side, 0, 0, 0), true);
            check.due("0", lookOf(x, side, 0), 0);
        }
    }

    private static void oftens() {
        check.by("1: an often 0 .. 999 (0 at first)");
        for (int side = 0; side < 2; side++) {
            NotYet x = plain();
            int below = 6 - 2 * side;
            check.due("at first", x.classes(0, below), 100);
            check.due("999", x.look(side, 0, 0, 999), true);
            check.due("999", x.classes(0, below), 1099);
            for (int often : new int[] {Integer.MIN_VALUE, -1, 1000, Integer.MAX_VALUE}) {
                check.due("often " + often, x.look(side, 0, 0, often), false);
            }
            check.due("999 still", x.classes(0, below), 1099);
            check.due("0", x.look(side, 0, 0, 0), true);
            check.due("0", x.classes(0, below), 100);
        }
    }

    private static void oftensTogether() {
        check.by("1: all of a SIDE together 1000 at most");
        for (int side = 0; side < 2; side++) {
            NotYet x = new NotYet();
            check.due("999", x.look(side, 0, 0, 999), true);
            check.due("1001", x.look(side, 1, 0, 2), false);
            check.due("1000", x.look(side, 1, 0, 1), true);
            check.due("1001", x.look(side, 2, 0, 1), false);
            check.due("1000", x.look(side, 2, 0, 0), true);
            check.due("the other SIDE has its own", x.look(1 - side, 0, 0, 999), true);
            check.due("its own one is put anew", x.look(side, 0, 0, 999), true);
            check.due("less", x.look(side, 0, 0, 500), true);
            check.due("room again", x.look(side, 2, 0, 499), true);
            check.due("full again", x.look(side, 1, 0, 2), false);
        }
    }

    private static void oftensOfSixSorts() {
        check.by("1: all of a SIDE together 1000 at most");
        for (int side = 0; side < 2; side++) {
            NotYet x = new NotYet();
            x.sorts(side, 6);
            for (int sort = 0; sort < 6; sort++) {
                check.due("166 each", x.look(side, sort, 0, 166), true);
            }
            for (int sort = 0; sort < 6; sort++) {
                check.due("1001", x.look(side, sort, 0, 171), false);
                check.due("1000", x.look(side, sort, 0, 170), true);
                check.due("996", x.look(side, sort, 0, 166), true);
            }
        }
    }

    private static void lookRefused() {
        check.by("3: false, and nothing is done, if one can't be");
        for (int side = 0; side < 2; side++) {
            NotYet x = new NotYet();
            x.set(0, 0);
            x.look(side, 0, 50, 600);
            x.look(side, 1, 40, 400);
            check.due("too often: LOOK", x.look(side, 0, 999, 601), false);
            check.due("LOOK that can't be: often", x.look(side, 0, 1000, 1), false);
            check.due("often that can't be: LOOK", x.look(side, 0, 999, -1), false);
            for (int sort : new int[] {Integer.MIN_VALUE, -1, 3, 6, Integer.MAX_VALUE}) {
                check.due("sort " + sort, x.look(side, sort, 1, 0), false);
            }
            check.due("its often", x.classes(0, 6 - 2 * side), 700);
            check.due("its LOOK", x.classes(0, 5 - 2 * side), 30000);
            check.due("its LOOK", lookOf(x, side, 0), 50);
            check.due("the next one's", lookOf(x, side, 1), 40);
        }
    }

    private static void worthTold() {
        check.by("1: WORTH, where it is told for a SORT of the other SIDE, that (0 .. 999)");
        for (int side = 0; side < 2; side++) {
            NotYet x = new NotYet();
            x.look(1 - side, 1, 500, 0);
            x.come(0, side == 0 ? 2 : 1, 0);
            x.come(1, side == 0 ? 1 : 2, 0);
            x.weeks(1);
            check.due("LOOK", x.one(side, 5), 500);
            check.due("999", x.worth(side, 2, 1, 999), true);
            check.due("999", x.one(side, 5), 999);
            for (int v : new int[] {Integer.MIN_VALUE, -2, 1000, Integer.MAX_VALUE}) {
                check.due("worth " + v, x.worth(side, 2, 1, v), false);
            }
            check.due("999 still", x.one(side, 5), 999);
            check.due("0", x.worth(side, 2, 1, 0), true);
            check.due("0", x.one(side, 5), 0);
            check.due("told to the other one", x.one(1 - side, 5), 0);
            x.look(1 - side, 1, 400, 0);
            check.due("told, whatever its LOOK", x.one(side, 5), 0);
        }
    }

    private static void worthUntold() {
        check.by("4: v NONE: not told any more");
        for (int side = 0; side < 2; side++) {
            NotYet x = plain();
            x.look(1 - side, 0, 700, 500);
            check.due("never told", x.worth(side, 0, 0, NotYet.NONE), true);
            check.due("LOOK", x.patience(side, 0, 0), 350);
            x.worth(side, 0, 0, 100);
            check.due("told", x.patience(side, 0, 0), 50);
            check.due("untold", x.worth(side, 0, 0, NotYet.NONE), true);
            check.due("LOOK again", x.patience(side, 0, 0), 350);
            x.look(1 - side, 0, 600, 500);
            check.due("LOOK as it is now", x.patience(side, 0, 0), 300);
        }
    }

    private static void worthRefused() {
        check.by("4: WORTH of SORT j of the other SIDE to SORT i of a SIDE: false if one can't be");
        NotYet x = new NotYet();
        x.sorts(0, 2);
        x.sorts(1, 5);
        check.due("last and last", x.worth(0, 1, 4, 1), true);
        check.due("last and last", x.worth(1, 4, 1, 1), true);
        check.due("no SORT 2", x.worth(0, 2, 0, 1), false);
        check.due("no SORT 5", x.worth(0, 0, 5, 1), false);
        check.due("no SORT 5", x.worth(1, 5, 0, 1), false);
        check.due("no SORT 2", x.worth(1, 0, 2, 1), false);
        for (int sort : new int[] {Integer.MIN_VALUE, -1, 6, Integer.MAX_VALUE}) {
            for (int side = 0; side < 2; side++) {
                check.due("i " + sort, x.worth(side, sort, 0, 1), false);
                check.due("j " + sort, x.worth(side, 0, sort, 1), false);
                check.due("untelling is no less asked", x.worth(side, sort, 0, -1), false);
            }
        }
    }

    private static void settings() {
        check.by("5: COST 0 .. 99, RATE 1 .. 999, T 1 .. 60, BLUR 0 .. 99, LATER 1 .. 99, SPREAD 0, 1, whether 1, 0");
        int[] least = {0, 1, 1, 0, 1, 0, 0};
        int[] most = {99, 999, 60, 99, 99, 1, 1};
        for (int what = 0; what < 7; what++) {
            NotYet x = new NotYet();
            check.due("below the least of " + what, x.set(what, least[what] - 1), false);
            check.due("the least of " + what, x.set(what, least[what]), true);
            check.due("the most of " + what, x.set(what, most[what]), true);
            check.due("above the most of " + what, x.set(what, most[what] + 1), false);
            check.due("far below, " + what, x.set(what, Integer.MIN_VALUE), false);
            check.due("far above, " + what, x.set(what, Integer.MAX_VALUE), false);
        }
        for (int what : new int[] {Integer.MIN_VALUE, -1, 7, 8, Integer.MAX_VALUE}) {
            check.due("what " + what, new NotYet().set(what, 1), false);
        }
        NotYet x = plain();
        x.sorts(1, 2);
        x.look(1, 0, 999, 999);
        x.look(1, 1, 999, 1);
        check.due("COST 0", x.set(0, 0) ? x.patience(0, 0, 0) : NO_SUCH, 999);
        check.due("COST 99", x.set(0, 99) ? x.patience(0, 0, 0) : NO_SUCH, 900);
        check.due("COST 99", x.classes(0, 0), 0);
        x.set(0, 0);
        check.due("RATE 1", x.set(1, 1) ? x.classes(0, 4) : NO_SUCH, 1001);
        check.due("RATE 999", x.set(1, 999) ? x.classes(0, 4) : NO_SUCH, 1999);
    }

    private static void settingsAtFirst() {
        check.by("1, 5: COST and RATE 1 and 100 at first, T 10 at first");
        NotYet x = new NotYet();
        x.look(0, 0, 900, 500);
        x.look(1, 0, 900, 500);
        check.due("COST", x.patience(0, 0, 9), 449);
        check.due("T", x.patience(0, 0, 10), 0);
        check.due("T", x.patience(0, 0, 11), -1);
        check.due("COST", x.classes(0, 3), 449000);
        check.due("RATE", x.classes(0, 4), 600);
    }

    private static void settingsRefused() {
        check.by("5: false if one can't be");
        NotYet x = new NotYet();
        x.look(0, 0, 900, 500);
        x.look(1, 0, 900, 500);
        for (int v : new int[] {Integer.MIN_VALUE, -1, 1000, Integer.MAX_VALUE}) {
            for (int what = -1; what < 8; what++) {
                check.due("set " + what + " " + v, x.set(what, v), false);
            }
        }
        check.due("COST as it was", x.classes(0, 3), 449000);
        check.due("RATE as it was", x.classes(0, 4), 600);
        check.due("T as it was", x.patience(0, 0, 10), 0);
        check.due("T as it was", x.patience(0, 0, 11), -1);
    }

    private static void classesOfRisingLooks() {
        check.by("1, 6: both SIDES' LOOKS falling or alike from SORT 0 on, else there are none");
        for (int side = 0; side < 2; side++) {
            for (int sort = 1; sort < 6; sort++) {
                NotYet x = new NotYet();
                x.sorts(side, 6);
                x.set(0, 0);
                for (int i = 0; i < 6; i++) {
                    x.look(side, i, 500, 0);
                }
                check.due("alike", x.classes(0, 0) > 0, true);
                x.look(side, sort, 501, 0);
                check.due("one rises", x.classes(0, 0), -1);
                for (int what = 1; what < 9; what++) {
                    check.due("what " + what, x.classes(0, what), NO_SUCH);
                }
                for (int i = 0; i < sort; i++) {
                    x.look(side, i, 501, 0);
                }
                check.due("falls", x.classes(0, 0) > 0, true);
                x.look(side, 0, 502, 0);
                check.due("falls at once", x.classes(0, 0) > 0, true);
            }
        }
    }

    private static void classesGreatest() {
        check.by("1: BAR is the k with the greatest");
        for (int side = 0; side < 2; side++) {
            NotYet x = plain();
            x.sorts(side, 3);
            x.look(side, 0, 100, 100);
            x.look(side, 1, 51, 100);
            // 10000 by 200, 15100 by 300; 50 and a part of 300 is the greater one.
            check.due("by a part of one", x.classes(0, 1 + side), 1);
            check.due("above", x.classes(0, 5 - 2 * side), 15100);
            check.due("below", x.classes(0, 6 - 2 * side), 300);
            x.look(side, 1, 49, 100);
            check.due("less by a part of one", x.classes(0, 1 + side), 0);
            x.look(side, 0, 100, 0);
            x.look(side, 1, 60, 100);
            x.look(side, 2, 40, 100);
            // Nothing by 100, 6000 by 200, 10000 by 300.
            check.due("the last one", x.classes(0, 1 + side), 2);
            x.look(side, 2, 29, 100);
            // 8900 by 300 is less than 30.
            check.due("the one between", x.classes(0, 1 + side), 1);
        }
    }

    private static void classesOfSeveralTheLeast() {
        check.by("1: of several the least");
        for (int side = 0; side < 2; side++) {
            NotYet x = plain();
            x.sorts(side, 3);
            x.look(side, 0, 100, 100);
            x.look(side, 1, 50, 100);
            x.look(side, 2, 50, 300);
            // 10000 by 200, 15000 by 300 and 30000 by 600 are all 50.
            check.due("three alike", x.classes(0, 1 + side), 0);
            check.due("above", x.classes(0, 5 - 2 * side), 10000);
            x.look(side, 0, 100, 0);
            x.look(side, 1, 100, 100);
            check.due("the last two alike", x.classes(0, 1 + side), 1);
            x.look(side, 1, 50, 0);
            x.look(side, 2, 50, 0);
            check.due("nobody met", x.classes(0, 1 + side), 0);
        }
    }

    private static void classesBelowNought() {
        check.by("1: if that is below 0, the rest takes NOBODY. If neither takes NOBODY: a CLASS");
        for (int side = 0; side < 2; side++) {
            NotYet x = plain();
            x.set(0, 9);
            x.look(1 - side, 0, 900, 900);
            x.look(side, 0, 90, 100);
            check.due("0 is not below 0", x.classes(0, 0), 1);
            check.due("above", x.classes(0, 5 - 2 * side), 0);
            x.look(side, 0, 89, 100);
            check.due("below 0", x.classes(0, 0), 0);
            check.due("all are in none", x.classes(0, 7), 1);
            check.due("all are in none", x.classes(0, 8), 1);
            x.look(1 - side, 0, 0, 0);
            check.due("both below 0", x.classes(0, 0), 0);
        }
    }

    private static void classesWhileBothHaveSorts() {
        check.by("1: so on while both SIDES have SORTS. Those left then are in none");
        for (int side = 0; side < 2; side++) {
            NotYet x = plain();
            x.sorts(side, 6);
            for (int sort = 0; sort < 6; sort++) {
                x.look(side, sort, 100, 0);
            }
            check.due("one CLASS", x.classes(0, 0), 1);
            check.due("its last", x.classes(0, 1), 0);
            check.due("its last", x.classes(0, 2), 0);
            check.due("left", x.classes(0, 7 + side), 5);
            check.due("none left", x.classes(0, 8 - side), 0);
            x.sorts(1 - side, 2);
            x.look(1 - side, 0, 10, 0);
            for (int sort = 0; sort < 6; sort++) {
                x.look(side, sort, 100, 0);
            }
            check.due("two", x.classes(0, 0), 2);
            check.due("left", x.classes(0, 7 + side), 4);
        }
    }

    private static void classesLeft() {
        check.by("1: the rest takes NOBODY: those left are in none");
        for (int side = 0; side < 2; side++) {
            NotYet x = plain();
            x.set(0, 1);
            x.sorts(0, 2);
            x.sorts(1, 3);
            x.look(0, 0, 500, 300);
            x.look(1, 0, 500, 300);
            x.look(1 - side, 1, 100, 300);
            check.due("one", x.classes(0, 0), 1);
            check.due("left of SIDE 0", x.classes(0, 7), 1);
            check.due("left of SIDE 1", x.classes(0, 8), 2);
            x.look(side, 1, 100, 300);
            check.due("two", x.classes(0, 0), 2);
            check.due("left of SIDE 0", x.classes(0, 7), 0);
            check.due("left of SIDE 1", x.classes(0, 8), 1);
        }
    }

    private static void classesByLooksAlone() {
        check.by("1: CLASSES by LOOKS alone");
        NotYet x = plain();
        x.look(0, 0, 50, 100);
        x.look(1, 0, 50, 100);
        x.worth(0, 0, 0, 999);
        x.worth(1, 0, 0, 0);
        check.due("SIDE 0's", x.classes(0, 3), 5000);
        check.due("SIDE 1's", x.classes(0, 5), 5000);
    }

    private static void classesAsTheyAre() {
        check.by("6: its number above and below (as they are, not shortened)");
        NotYet x = plain();
        x.look(0, 0, 100, 100);
        x.look(1, 0, 300, 200);
        check.due("SIDE 0's above", x.classes(0, 3), 60000);
        check.due("SIDE 0's below", x.classes(0, 4), 300);
        check.due("SIDE 1's above", x.classes(0, 5), 10000);
        check.due("SIDE 1's below", x.classes(0, 6), 200);
    }

    /** Six SORTS of great numbers: what is compared goes beyond an int. */
    private static void classesGreatNumbers() {
        check.by("1: BAR is the k with the greatest, of several the least");
        for (int side = 0; side < 2; side++) {
            NotYet x = plain();
            x.sorts(side, 2);
            x.set(1, 999);
            x.look(side, 0, 999, 999);
            x.look(side, 1, 999, 1);
            check.due("both", x.classes(0, 1 + side), 1);
            check.due("above", x.classes(0, 5 - 2 * side), 999000);
            check.due("below", x.classes(0, 6 - 2 * side), 1999);
            x.look(side, 1, 499, 1);
            // 998001 by 1998 is 499 and a half.
            check.due("the first", x.classes(0, 1 + side), 0);
            x.look(side, 1, 500, 1);
            check.due("both", x.classes(0, 1 + side), 1);
            check.due("above", x.classes(0, 5 - 2 * side), 998501);
        }
    }

    private static void classesFull() {
        check.by("6: Of CLASS k (from 0): six SORTS a SIDE, six CLASSES");
        NotYet x = plain();
        x.sorts(0, 6);
        x.sorts(1, 6);
        for (int sort = 0; sort < 6; sort++) {
            x.look(0, sort, 600 - sort, 0);
            x.look(1, sort, 60 - sort, 0);
        }
        check.due("six", x.classes(0, 0), 6);
        for (int k = 0; k < 6; k++) {
            check.due("last of SIDE 0", x.classes(k, 1), k);
            check.due("last of SIDE 1", x.classes(k, 2), k);
            check.due("above", x.classes(k, 3), 0);
            check.due("below", x.classes(k, 6), 100);
        }
        check.due("no seventh", x.classes(6, 1), NO_SUCH);
        check.due("none left", x.classes(0, 7), 0);
        check.due("none left", x.classes(0, 8), 0);
    }

    private static void classesEachFromItsOwn() {
        check.by("1: the first SORT of each SIDE that is in no CLASS yet, a of SIDE 0, b of SIDE 1");
        for (int side = 0; side < 2; side++) {
            NotYet x = plain();
            x.sorts(side, 6);
            x.sorts(1 - side, 2);
            for (int sort = 0; sort < 6; sort++) {
                x.look(side, sort, 100 - sort, 100);
            }
            x.look(1 - side, 0, 900, 500);
            x.look(1 - side, 1, 10, 500);
            // All six are taken together by those who meet each of them alike, the others one by one.
            check.due("one CLASS", x.classes(0, 0), 1);
            check.due("six of a SIDE", x.classes(0, 1 + side), 5);
            check.due("one of the other", x.classes(0, 2 - side), 0);
            check.due("left", x.classes(0, 8 - side), 1);
            for (int sort = 3; sort < 6; sort++) {
                x.look(side, sort, 20, 100);
            }
            check.due("two CLASSES", x.classes(0, 0), 2);
            check.due("three of a SIDE", x.classes(0, 1 + side), 2);
            check.due("then three more", x.classes(1, 1 + side), 5);
            check.due("one of the other", x.classes(0, 2 - side), 0);
            check.due("then one more", x.classes(1, 2 - side), 1);
            check.due("above, from the fourth on", x.classes(1, 5 - 2 * side), 6000);
            check.due("below, from the fourth on", x.classes(1, 6 - 2 * side), 400);
            check.due("above, the second alone", x.classes(1, 3 + 2 * side), 5000);
        }
    }

    private static void classesNoneSuch() {
        check.by("6: NONE - 9999999 if there is none such, or another what; what 7, 8 k not asked");
        NotYet x = plain();
        for (int k : new int[] {Integer.MIN_VALUE, -1, 1, 2, Integer.MAX_VALUE}) {
            for (int what = 1; what < 7; what++) {
                check.due("class " + k, x.classes(k, what), NO_SUCH);
            }
            check.due("how many", x.classes(k, 0), 1);
            check.due("in none", x.classes(k, 7), 0);
            check.due("in none", x.classes(k, 8), 0);
        }
        for (int what : new int[] {Integer.MIN_VALUE, -1, 9, 10, Integer.MAX_VALUE}) {
            check.due("what " + what, x.classes(0, what), NO_SUCH);
        }
        for (int what = 1; what < 7; what++) {
            check.so("class 0", x.classes(0, what) != NO_SUCH);
        }
    }

    private static void lastWeek() {
        check.by("2: THE LAST WEEK T (1 .. 60); 7: behind week t (0 .. T); 8: in week t (1 .. T)");
        for (int last : new int[] {1, 2, 10, 59, 60}) {
            NotYet x = new NotYet();
            check.due("T " + last, x.set(2, last), true);
            check.due("ahead of the first", x.patience(0, 0, 0), 0);
            check.due("behind the last", x.patience(0, 0, last), 0);
            check.due("behind that", x.patience(0, 0, last + 1), -1);
            check.due("before 0", x.patience(0, 0, -1), -1);
            check.due("in the first", x.pairs(0, 0, 1, 0), 1);
            check.due("in the last", x.pairs(0, 0, last, 0), 1);
            check.due("in the next", x.pairs(0, 0, last + 1, 0), -1);
            check.due("in week 0", x.pairs(0, 0, 0, 0), -1);
        }
    }

    private static void behindTheLastWeek() {
        check.by("2: WAIT of a SORT of a SIDE behind week T is 0");
        NotYet x = plain();
        x.look(0, 0, 800, 500);
        x.look(1, 0, 600, 500);
        for (int last : new int[] {60, 1, 2, 59, 3, 60}) {
            x.set(2, last);
            for (int side = 0; side < 2; side++) {
                check.due("T " + last, x.patience(side, 0, last), 0);
                check.due("a week ahead", x.patience(side, 0, last - 1), side == 0 ? 300 : 400);
            }
        }
    }

    private static void waitAtLeastNought() {
        check.by("2: less COST; 0 at least");
        for (int side = 0; side < 2; side++) {
            NotYet x = plain();
            x.look(1 - side, 0, 100, 500);
            x.set(0, 49);
            check.due("50 less 49", x.patience(side, 0, 0), 1);
            x.set(0, 50);
            check.due("50 less 50", x.patience(side, 0, 0), 0);
            x.set(0, 51);
            check.due("50 less 51", x.patience(side, 0, 0), 0);
            x.set(0, 99);
            check.due("50 less 99", x.patience(side, 0, 0), 0);
            x.set(2, 60);
            check.due("never below 0", x.patience(side, 0, 0), 0);
        }
    }

    private static void waitRestOfThousand() {
        check.by("2: and the rest of 1000 times WAIT behind t");
        NotYet x = plain();
        x.set(2, 2);
        x.sorts(1, 2);
        x.look(1, 0, 400, 500);
        check.due("half", x.patience(0, 0, 1), 200);
        check.due("half and a half of what is behind", x.patience(0, 0, 0), 300);
        x.look(1, 1, 100, 500);
        // 250 behind week 1: the second is not taken then, but waited past.
        check.due("no rest", x.patience(0, 0, 1), 250);
        check.due("no rest", x.patience(0, 0, 0), 325);
        x.look(1, 0, 0, 0);
        x.look(1, 1, 0, 0);
        check.due("all is rest", x.patience(0, 0, 0), 0);
    }

    private static void waitGreatest() {
        check.by("2: WAIT ahead of week t");
        NotYet x = plain();
        x.sorts(0, 2);
        x.sorts(1, 2);
        x.set(2, 60);
        for (int side = 0; side < 2; side++) {
            x.look(side, 0, 999, 999);
            x.look(side, 1, 999, 1);
        }
        for (int t = 0; t < 60; t++) {
            check.due("999 behind " + t, x.patience(0, 1, t), 999);
            check.due("999 behind " + t, x.patience(1, 0, t), 999);
        }
        check.due("both take", x.pairs(0, 1, 1, 0), 1);
    }

    private static void waitOfSixtyWeeks() {
        check.by("2: In week t (T, T - 1, .. 1): by 1000, less COST");
        for (int side = 0; side < 2; side++) {
            for (int often : new int[] {1, 333, 500, 999}) {
                for (int cost : new int[] {0, 1, 99}) {
                    NotYet x = plain();
                    x.set(0, cost);
                    x.set(2, 60);
                    x.look(1 - side, 0, 999, often);
                    int wait = 0;
                    for (int t = 60; t >= 0; t--) {
                        check.due("behind " + t, x.patience(side, 0, t), wait);
                        wait = Math.max(0, (often * 999 + (1000 - often) * wait) / 1000 - cost);
                    }
                }
            }
        }
    }

    /** Each SORT is taken by one SORT alone, so that each has a WAIT of its own. */
    private static void waitOfAllSorts() {
        check.by("2: of all SORTS j of the other SIDE often times (WORTH in a PAIR, else WAIT behind t)");
        NotYet x = plain();
        x.set(2, 60);
        x.sorts(0, 6);
        x.sorts(1, 6);
        for (int i = 0; i < 6; i++) {
            x.look(0, i, 0, 100 + i);
            x.look(1, i, 0, 110 + i);
            x.worth(0, i, 5 - i, 500 + 10 * i);
            x.worth(1, 5 - i, i, 700 + 10 * i);
        }
        x.patience(0, 0, 0);
        for (int last : new int[] {1, 2, 60, 3}) {
            x.set(2, last);
            for (int i = 0; i < 6; i++) {
                check.due("behind T", x.patience(0, i, last), 0);
                check.due("behind T", x.patience(1, 5 - i, last), 0);
                check.due("a week ahead", x.patience(0, i, last - 1), (115 - i) * (500 + 10 * i) / 1000);
                check.due("a week ahead", x.patience(1, 5 - i, last - 1), (100 + i) * (700 + 10 * i) / 1000);
            }
        }
    }

    private static void takesAtLeast() {
        check.by("2: each takes the other, if its WORTH is at least the WAIT of the one who takes; a PAIR if both do");
        for (int side = 0; side < 2; side++) {
            NotYet x = plain();
            x.set(2, 2);
            x.sorts(1 - side, 2);
            x.look(1 - side, 0, 600, 500);
            x.look(1 - side, 1, 300, 0);
            int i = side == 0 ? 0 : 1;
            int j = side == 0 ? 1 : 0;
            check.due("as much", x.pairs(i, j, 1, 1 + side), 1);
            x.look(1 - side, 1, 299, 0);
            check.due("less, before WAIT is asked", x.pairs(i, j, 1, 1 + side), 0);
            x.look(1 - side, 1, 300, 0);
            check.due("WAIT", x.patience(side, 0, 1), 300);
            check.due("as much", x.pairs(i, j, 1, 1 + side), 1);
            check.due("a PAIR", x.pairs(i, j, 1, 0), 1);
            x.look(1 - side, 1, 299, 0);
            check.due("less", x.pairs(i, j, 1, 1 + side), 0);
            check.due("the other one does", x.pairs(i, j, 1, 2 - side), 1);
            check.due("no PAIR", x.pairs(i, j, 1, 0), 0);
            check.due("in the last week all take", x.pairs(i, j, 2, 0), 1);
            x.look(1 - side, 1, 301, 0);
            check.due("more", x.pairs(i, j, 1, 0), 1);
        }
    }

    private static void patienceRefused() {
        check.by("7: NONE if one can't be");
        NotYet x = new NotYet();
        x.sorts(0, 1);
        x.sorts(1, 6);
        check.due("the last of SIDE 0", x.patience(0, 0, 0), 0);
        check.due("none behind it", x.patience(0, 1, 0), -1);
        check.due("the last of SIDE 1", x.patience(1, 5, 0), 0);
        check.due("none behind it", x.patience(1, 6, 0), -1);
        for (int v : new int[] {Integer.MIN_VALUE, -1, 61, Integer.MAX_VALUE}) {
            check.due("sort " + v, x.patience(0, v, 0), -1);
            check.due("sort " + v, x.patience(1, v, 0), -1);
            check.due("week " + v, x.patience(0, 0, v), -1);
            check.due("side " + v, x.patience(v, 0, 0), -1);
        }
    }

    private static void pairsRefused() {
        check.by("8: NONE if one can't be, or another what");
        NotYet x = new NotYet();
        x.sorts(0, 2);
        x.sorts(1, 5);
        for (int what = 0; what < 3; what++) {
            check.due("last and last", x.pairs(1, 4, 10, what), 1);
            check.due("no SORT 2", x.pairs(2, 4, 10, what), -1);
            check.due("no SORT 5", x.pairs(1, 5, 10, what), -1);
            check.due("no week 11", x.pairs(1, 4, 11, what), -1);
            for (int v : new int[] {Integer.MIN_VALUE, -1, 61, Integer.MAX_VALUE}) {
                check.due("i " + v, x.pairs(v, 0, 1, what), -1);
                check.due("j " + v, x.pairs(0, v, 1, what), -1);
                check.due("week " + v, x.pairs(0, 0, v, what), -1);
            }
        }
        for (int what : new int[] {Integer.MIN_VALUE, -1, 3, 4, Integer.MAX_VALUE}) {
            check.due("what " + what, x.pairs(0, 0, 1, what), -1);
        }
    }
}
