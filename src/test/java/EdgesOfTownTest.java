/** The edges that Term 3 names of PEOPLE and WEEKS, and those of promises 13 to 18, sentence by sentence. */
public final class EdgesOfTownTest {
    private static final int NO_SUCH = -10000000;
    private static final int[] FAR = {Integer.MIN_VALUE, -2, -1, 41, 100, Integer.MAX_VALUE};
    private static final Check check = new Check();

    public static void main(String[] args) {
        comeNumbers();
        comeForty();
        comeRefused();
        comeSingle();
        stateTold();
        stateOfGreatNumbers();
        weeksOneToTwenty();
        weeksNinetyNine();
        weeksRefusedOnesChangeNothing();
        weeksOfAnEmptyTown();
        meetsNone();
        drawOfOne();
        drawWraps();
        drawGoesByNumber();
        spreadNought();
        spreadOne();
        blurNought();
        blurNinetyNine();
        blurOne();
        takeAtLeast();
        takeBelowNought();
        laterOrMore();
        laterLowered();
        laterNinetyNine();
        looksAgainOnce();
        looksAgainAtWhatWasTaken();
        looksAgainInTurn();
        partedOneMeetsInThatWeek();
        leavesAtLeast();
        leavesNever();
        leavesIfHeTakes();
        leavesWithWrap();
        leftOneWithANumberAbove();
        leftOneWithANumberBelow();
        leftOneIsSingle();
        newPairIsNew();
        waitedOfSingleOnes();
        oneNoneSuch();
        oneOfASingleOne();
        oneOfAPair();
        allOfASort();
        allRefused();
        townWhats();
        lastOfManyCalls();
        check.close();
    }

    private static int next(int state) {
        return 1664525 * state + 1013904223;
    }

    private static int drawn(int state, int m) {
        return (state >>> 8) % m;
    }

    /** One MAN of LOOK his and one WOMAN of LOOK hers, by these WAYS. */
    private static NotYet couple(int his, int hers, String hisWay, String herWay) {
        NotYet x = new NotYet();
        x.look(0, 0, his, 0);
        x.look(1, 0, hers, 0);
        Check.way(x, 0, hisWay);
        Check.way(x, 1, herWay);
        x.come(0, 0, 0);
        x.come(1, 0, 1);
        return x;
    }

    private static void pass(NotYet x, int weeks) {
        for (int i = 0; i < weeks; i++) {
            x.weeks(1);
        }
    }

    private static void comeNumbers() {
        check.by("3, 13: PEOPLE 0 .. 39 as they come: the number");
        NotYet x = new NotYet();
        for (int i = 0; i < 40; i++) {
            check.due("people", x.town(1), i);
            check.due("the number", x.come(i / 3 % 2, i % 3, i % 6), i);
        }
        check.due("the last", x.one(39, 0), -1);
        check.due("none behind", x.one(40, 0), NO_SUCH);
    }

    private static void comeForty() {
        check.by("13: NONE if there are 40");
        for (int side = 0; side < 2; side++) {
            NotYet x = new NotYet();
            for (int i = 0; i < 40; i++) {
                x.come(side, 0, 0);
            }
            check.due("the 41st", x.come(side, 0, 0), -1);
            check.due("of the other SIDE", x.come(1 - side, 0, 0), -1);
            check.due("people", x.town(1), 40);
            check.due("of that SIDE", x.all(side, -1, 0), 40);
            check.due("of the other", x.all(1 - side, -1, 0), 0);
            check.due("weeks go by", x.weeks(1), 0);
            check.due("still no room", x.come(side, 0, 0), -1);
        }
    }

    private static void comeRefused() {
        check.by("13: NONE if one can't be");
        NotYet x = new NotYet();
        x.sorts(0, 1);
        x.sorts(1, 6);
        check.due("no SORT 1", x.come(0, 1, 0), -1);
        check.due("no SORT 6", x.come(1, 6, 0), -1);
        check.due("no WAY 6", x.come(0, 0, 6), -1);
        for (int v : FAR) {
            check.due("side " + v, x.come(v, 0, 0), -1);
            check.due("sort " + v, x.come(0, v, 0), -1);
            check.due("sort " + v, x.come(1, v, 0), -1);
            check.due("way " + v, x.come(0, 0, v), -1);
        }
        check.due("nobody came", x.town(1), 0);
        check.due("nobody came: SORTS may be told", x.sorts(0, 1), true);
        check.due("the last SORT, the last WAY", x.come(1, 5, 5), 0);
        check.due("the first ones", x.come(0, 0, 0), 1);
    }

    private static void comeSingle() {
        check.by("3: as they come: single, WAITED 0 weeks");
        NotYet x = new NotYet();
        x.come(0, 0, 0);
        x.come(1, 0, 0);
        x.weeks(20);
        int p = x.come(1, 0, 0);
        int[] due = {-1, 0, 0, 0, -1, 0, 0, 0};
        for (int what = 0; what < 8; what++) {
            check.due("what " + what, x.one(p, what), due[what]);
        }
    }

    private static void stateTold() {
        check.by("14: STATE is told: what it was");
        NotYet x = new NotYet();
        int was = 0;
        for (int v : new int[] {1, -1, 0, Integer.MAX_VALUE, Integer.MIN_VALUE, 5, 5}) {
            check.due("state " + v, x.state(v), was);
            check.due("town 7", x.town(7), v);
            was = v;
        }
    }

    private static void stateOfGreatNumbers() {
        check.by("3: STATE becomes 1664525 STATE + 1013904223 (ints, which wrap)");
        for (int v : new int[] {Integer.MIN_VALUE, Integer.MAX_VALUE, -1, 0, 1, 1 << 30}) {
            NotYet x = couple(0, 0, "take 1;", "");
            x.state(v);
            x.weeks(1);
            check.due("behind " + v, x.town(7), next(v));
            check.due("what it was", x.state(0), next(v));
        }
    }

    private static void weeksOneToTwenty() {
        check.by("15: So many WEEKS (1 .. 20) go by");
        for (int n : new int[] {1, 2, 19, 20}) {
            NotYet x = couple(0, 0, "", "");
            check.due("weeks " + n, x.weeks(n), 1);
            check.due("WEEKS", x.town(0), n);
            check.due("as old", x.one(0, 2), n);
        }
        for (int n : new int[] {Integer.MIN_VALUE, -1, 0, 21, 22, 99, 100, Integer.MAX_VALUE}) {
            NotYet x = couple(0, 0, "", "");
            check.due("weeks " + n, x.weeks(n), -1);
            check.due("none went by", x.town(0), 0);
            check.due("nobody met", x.town(3), 0);
        }
    }

    private static void weeksNinetyNine() {
        check.by("15: NONE if there would be more than 99 WEEKS");
        for (int n = 1; n <= 20; n++) {
            NotYet x = couple(0, 0, "", "");
            for (int i = 0; i < 4; i++) {
                check.due("twenty", x.weeks(20), 1);
            }
            check.due("80 and " + n, x.weeks(n), n <= 19 ? 1 : -1);
            check.due("WEEKS", x.town(0), n <= 19 ? 80 + n : 80);
            check.due("as old", x.one(1, 2), n <= 19 ? 80 + n : 80);
            if (n <= 19) {
                check.due("to 99", n == 19 ? 1 : x.weeks(19 - n), 1);
            }
        }
        NotYet x = couple(0, 0, "take 1;", "");
        pass(x, 99);
        int state = x.town(7);
        check.due("99", x.town(0), 99);
        for (int n = 1; n <= 20; n++) {
            check.due("no more", x.weeks(n), -1);
        }
        check.due("99 still", x.town(0), 99);
        check.due("WAITED 99", x.one(0, 1), 99);
        check.due("meetings", x.town(3), 99);
        check.due("no DRAW", x.town(7), state);
    }

    private static void weeksRefusedOnesChangeNothing() {
        check.by("15: NONE if one can't be, or there would be more than 99 WEEKS");
        NotYet x = couple(5, 5, "take 6 - waited / 50;", "");
        pass(x, 90);
        check.due("a PAIR", x.town(2), 1);
        int[] before = new int[16];
        for (int what = 0; what < 8; what++) {
            before[what] = x.one(0, what);
            before[8 + what] = x.town(what);
        }
        for (int n : new int[] {-1, 0, 10, 20, 21, Integer.MAX_VALUE}) {
            check.due("weeks " + n, x.weeks(n), -1);
        }
        for (int what = 0; what < 8; what++) {
            check.due("one " + what, x.one(0, what), before[what]);
            check.due("town " + what, x.town(what), before[8 + what]);
        }
        check.due("nine more", x.weeks(9), 1);
    }

    private static void weeksOfAnEmptyTown() {
        check.by("15: how many PAIRS there are then");
        NotYet x = new NotYet();
        check.due("nobody", x.weeks(20), 0);
        check.due("WEEKS", x.town(0), 20);
        check.due("no DRAW", x.town(7), 0);
        for (int i = 0; i < 40; i++) {
            x.come(i % 2, 0, 0);
        }
        check.due("all at once", x.weeks(1), 20);
        check.due("twenty meetings", x.town(3), 20);
        check.due("twenty made", x.town(4), 20);
    }

    private static void meetsNone() {
        check.by("3: MEETS one of SIDE 1 (none if there are none)");
        for (int spread = 0; spread < 2; spread++) {
            NotYet x = new NotYet();
            x.set(5, spread);
            x.state(77);
            x.come(0, 0, 0);
            x.come(0, 1, 0);
            check.due("no PAIR", x.weeks(3), 0);
            check.due("no meeting", x.town(3), 0);
            check.due("no DRAW", x.town(7), 77);
            check.due("WAITED", x.one(1, 1), 3);
            NotYet y = new NotYet();
            y.set(5, spread);
            y.come(1, 0, 0);
            check.due("nobody goes out", y.weeks(3), 0);
            check.due("WAITED", y.one(0, 1), 3);
            NotYet z = couple(0, 0, "", "");
            z.weeks(1);
            z.set(5, spread);
            z.state(77);
            z.come(0, 0, 0);
            z.weeks(1);
            check.due("all of SIDE 1 are in PAIRS", z.town(3), 1 + spread);
            check.due("a DRAW of those who are there", z.town(7), spread == 0 ? 77 : next(77));
        }
    }

    private static void drawOfOne() {
        check.by("3: that with the number of a DRAW of how many they are");
        NotYet x = couple(0, 0, "take 1;", "");
        x.state(9);
        x.weeks(2);
        check.due("a DRAW of one is a DRAW", x.town(7), next(next(9)));
        check.due("both met", x.town(3), 2);
    }

    private static void drawWraps() {
        check.by("3: then it moved down by 8 bits, without sign, modulo m");
        int below = 0;
        for (int state = -40; state < 40; state++) {
            NotYet x = new NotYet();
            x.come(0, 0, 0);
            for (int i = 0; i < 7; i++) {
                x.come(1, 0, 0);
            }
            int told = state * 104729 * 31;
            x.state(told);
            x.weeks(1);
            check.due("behind " + told, x.one(0, 0), 1 + drawn(next(told), 7));
            below += next(told) < 0 ? 1 : 0;
        }
        check.so("some are below 0", below > 20 && below < 60);
    }

    private static void drawGoesByNumber() {
        check.by("3: of all who are single, by number");
        for (int state = 0; state < 30; state++) {
            NotYet x = new NotYet();
            int[] women = new int[39];
            for (int i = 0; i < 39; i++) {
                women[i] = x.come(1, i % 3, 0);
            }
            x.come(0, 0, 0);
            x.state(state);
            check.due("one PAIR", x.weeks(1), 1);
            check.due("of 39", x.one(39, 0), women[drawn(next(state), 39)]);
        }
    }

    private static void spreadNought() {
        check.by("3: SPREAD 0: of all who are single");
        for (int state = 0; state < 30; state++) {
            NotYet x = new NotYet();
            x.come(0, 0, 0);
            x.come(1, 0, 0);
            x.come(0, 0, 0);
            x.come(1, 0, 0);
            x.state(state);
            int first = next(state);
            check.due("two PAIRS", x.weeks(1), 2);
            check.due("the first", x.one(0, 0), drawn(first, 2) == 0 ? 1 : 3);
            check.due("who is left", x.one(2, 0), drawn(first, 2) == 0 ? 3 : 1);
            check.due("two DRAWS", x.town(7), next(first));
        }
    }

    private static void spreadOne() {
        check.by("3: SPREAD 1: of all");
        for (int state = 0; state < 30; state++) {
            NotYet x = new NotYet();
            x.set(5, 1);
            x.come(0, 0, 0);
            x.come(1, 0, 0);
            x.come(0, 0, 0);
            x.come(1, 0, 0);
            x.state(state);
            int first = next(state);
            int second = next(first);
            boolean same = drawn(first, 2) == drawn(second, 2);
            check.due("PAIRS", x.weeks(1), same ? 1 : 2);
            check.due("she never leaves", x.one(0, 0), drawn(first, 2) == 0 ? 1 : 3);
            check.due("both met", x.town(3), 2);
            check.due("none left", x.town(5), 0);
        }
    }

    private static void blurNought() {
        check.by("3: no DRAW for BLUR 0; 5: BLUR 0 at first");
        NotYet x = couple(5, 5, "take 5;", "take 5;");
        x.state(3);
        check.due("sees what is", x.weeks(1), 1);
        check.due("one DRAW", x.town(7), next(3));
        NotYet y = couple(5, 5, "take 6;", "take 5;");
        y.set(3, 99);
        y.set(3, 0);
        y.state(3);
        check.due("sees what is", y.weeks(1), 0);
        check.due("one DRAW", y.town(7), next(3));
    }

    private static void blurNinetyNine() {
        check.by("3: a DRAW of 2 e + 1 less e (e: BLUR 0 .. 99; the one of SIDE 0 first)");
        for (int state = 0; state < 300; state += 7) {
            int his = next(next(state));
            int hers = next(his);
            int heSees = 500 + drawn(his, 199) - 99;
            int sheSees = 300 + drawn(hers, 199) - 99;
            for (int less = 0; less < 2; less++) {
                for (int who = 0; who < 2; who++) {
                    String hisWay = "take " + (heSees + (who == 0 ? less : 0)) + ";";
                    String herWay = "take " + (sheSees + (who == 1 ? less : 0)) + ";";
                    NotYet x = couple(300, 500, hisWay, herWay);
                    x.set(3, 99);
                    x.state(state);
                    check.due("just as much, or one more", x.weeks(1), 1 - less);
                    check.due("three DRAWS", x.town(7), hers);
                }
            }
        }
    }

    private static void blurOne() {
        check.by("3: an ERROR: a DRAW of 2 e + 1 less e");
        int[] seen = new int[3];
        for (int state = 0; state < 60; state++) {
            NotYet x = couple(0, 10, "take 11;", "take 0 - 1;");
            x.set(3, 1);
            x.state(state);
            int error = drawn(next(next(state)), 3) - 1;
            seen[error + 1]++;
            check.due("sees 9, 10 or 11", x.weeks(1), error == 1 ? 1 : 0);
        }
        check.so("all three come", seen[0] > 0 && seen[1] > 0 && seen[2] > 0);
    }

    private static void takeAtLeast() {
        check.by("3: they are a PAIR if what each SEES is at least its take");
        for (int his = 9; his <= 11; his++) {
            for (int hers = 19; hers <= 21; hers++) {
                NotYet x = couple(20, 10, "take " + his + ";", "take " + hers + ";");
                check.due("takes " + his + " and " + hers, x.weeks(1), his <= 10 && hers <= 20 ? 1 : 0);
                check.due("they met", x.town(3), 1);
            }
        }
    }

    private static void takeBelowNought() {
        check.by("3: Ints, which wrap");
        NotYet x = couple(0, 0, "take 8192*8192*32;", "take 0 - 1;");
        check.due("all is more", x.weeks(1), 1);
        NotYet y = couple(999, 999, "take 8192*8192*32 - 1;", "");
        check.due("nothing is so much", y.weeks(20), 0);
    }

    private static void laterOrMore() {
        check.by("3: all PAIRS of people that are LATER weeks old or more; 5: LATER 1 .. 99; 3 at first");
        NotYet first = couple(0, 10, "take 10;", "");
        first.weeks(1);
        first.worth(0, 0, 0, 9);
        check.due("1 week old", first.weeks(1), 1);
        check.due("2 weeks old", first.weeks(1), 1);
        check.due("3 weeks old", first.weeks(1), 0);
        for (int later : new int[] {1, 2, 4, 50, 97, 98}) {
            NotYet x = couple(0, 10, "take 10;", "");
            x.set(4, later);
            x.weeks(1);
            x.worth(0, 0, 0, 9);
            pass(x, later - 1);
            check.due("not yet, " + later, x.town(2), 1);
            check.due("as old", x.one(0, 2), later);
            check.due("now, " + later, x.weeks(1), 0);
            check.due("parted", x.town(6), 1);
        }
    }

    private static void laterLowered() {
        check.by("3: LATER weeks old or more");
        NotYet x = couple(0, 10, "take 10;", "");
        x.set(4, 50);
        x.weeks(9);
        x.worth(0, 0, 0, 9);
        check.due("not yet", x.weeks(1), 1);
        x.set(4, 5);
        check.due("older than that", x.weeks(1), 0);
    }

    private static void laterNinetyNine() {
        check.by("5: LATER 1 .. 99");
        NotYet x = couple(0, 10, "take 10;", "");
        x.set(4, 99);
        x.weeks(1);
        x.worth(0, 0, 0, 0);
        pass(x, 98);
        check.due("never so old", x.town(2), 1);
        check.due("99 weeks old", x.one(1, 2), 99);
    }

    private static void looksAgainOnce() {
        check.by("3: and have not LOOKED AGAIN yet");
        NotYet x = couple(0, 10, "take 10;", "");
        x.set(4, 1);
        x.weeks(2);
        x.worth(0, 0, 0, 0);
        check.due("looked already", x.weeks(20), 1);
        check.due("none parted", x.town(6), 0);
        x.set(4, 2);
        check.due("nor with another LATER", x.weeks(20), 1);
    }

    private static void looksAgainAtWhatWasTaken() {
        check.by("3: if for one of them the other's WORTH is below what was taken then (its take as it was), they part");
        for (int side = 0; side < 2; side++) {
            for (int worth = 9; worth <= 11; worth++) {
                NotYet x = couple(50, 50, side == 0 ? "take 10;" : "", side == 1 ? "take 10;" : "");
                x.weeks(1);
                Check.way(x, side, "take 999;");
                x.worth(side, 0, 0, worth);
                x.worth(1 - side, 0, 0, 0);
                pass(x, 3);
                check.due("10 was taken, " + worth + " it is", x.town(6), worth < 10 ? 1 : 0);
                check.due("he parted", x.one(0, 7), worth < 10 ? 1 : 0);
                check.due("she parted", x.one(1, 7), worth < 10 ? 1 : 0);
                check.due("nobody was left", x.town(5), 0);
            }
        }
    }

    /** Two men who part in one week: both women are single when the first of them goes out. */
    private static void looksAgainInTurn() {
        check.by("3: First all PAIRS of people do so, by the number of the one of SIDE 0");
        for (int state = 0; state < 20; state++) {
            NotYet x = new NotYet();
            x.look(1, 0, 10, 0);
            Check.way(x, 0, "take 10;");
            x.come(0, 0, 0);
            x.come(0, 0, 0);
            x.come(1, 0, 1);
            x.come(1, 0, 1);
            check.due("two PAIRS", x.weeks(1), 2);
            x.look(1, 0, 9, 0);
            x.weeks(2);
            x.state(state);
            check.due("all part", x.weeks(1), 0);
            check.due("parted", x.town(6), 2);
            check.due("both went out again", x.town(3), 4);
            check.due("two DRAWS", x.town(7), next(next(state)));
        }
    }

    private static void partedOneMeetsInThatWeek() {
        check.by("3: First .. Then, by numbers, each one of SIDE 0 who is single MEETS");
        NotYet x = couple(0, 10, "take 10 when week < 3;", "");
        x.weeks(3);
        x.worth(0, 0, 0, 5);
        check.due("part and meet anew", x.weeks(1), 1);
        check.due("parted", x.town(6), 1);
        check.due("made", x.town(4), 2);
        check.due("a new PAIR", x.one(0, 2), 1);
        check.due("not single at its end", x.one(0, 1), 0);
        check.due("looks again anew", x.weeks(3), 1);
        check.due("0 was taken now", x.town(6), 1);
    }

    /** A WOMAN (1) with one of WORTH 10 (0), and another one (2) of that WORTH who meets her. */
    private static NotYet courted(String herWay, int worth, String hisWay) {
        NotYet x = new NotYet();
        x.look(0, 0, 10, 0);
        x.look(0, 1, worth, 0);
        x.look(1, 0, 20, 0);
        Check.way(x, 1, herWay);
        Check.way(x, 2, hisWay);
        x.come(0, 0, 0);
        x.come(1, 0, 1);
        x.weeks(1);
        x.set(5, 1);
        x.come(0, 1, 2);
        return x;
    }

    private static void leavesAtLeast() {
        check.by("3: she leaves, if what she SEES is at least the WORTH of her own one and her leave, added");
        for (int leave = 0; leave < 4; leave++) {
            for (int more = leave - 1; more <= leave + 1; more++) {
                NotYet x = courted("leave " + leave + ";", 10 + more, "");
                x.weeks(1);
                check.due("leave " + leave + ", more by " + more, x.one(1, 0), more >= leave ? 2 : 0);
                check.due("left", x.town(5), more >= leave ? 1 : 0);
            }
        }
        NotYet x = courted("leave 0 - 5;", 5, "");
        x.weeks(1);
        check.due("for one worth less", x.one(1, 0), 2);
        NotYet y = courted("leave 0 - 5;", 4, "");
        y.weeks(1);
        check.due("not for so much less", y.one(1, 0), 0);
        NotYet z = courted("take 999 when week > 0; leave 1;", 11, "");
        z.weeks(1);
        check.due("her take is not asked", z.one(1, 0), 2);
    }

    private static void leavesNever() {
        check.by("3: without one never for leave");
        for (String way : new String[] {"", "take 0;", "leave 0 when 1=2;"}) {
            NotYet x = courted(way, 999, "");
            check.due("stays", x.weeks(20), 1);
            check.due("with him", x.one(1, 0), 0);
            check.due("they met", x.town(3), 21);
        }
        NotYet x = courted("leave 0 - 1;", 9, "");
        x.weeks(1);
        check.due("a leave of -1 is one", x.one(1, 0), 2);
    }

    private static void leavesIfHeTakes() {
        check.by("3: and what he SEES is at least his take");
        for (int take = 19; take <= 21; take++) {
            NotYet x = courted("leave 1;", 99, "take " + take + ";");
            x.weeks(1);
            check.due("he takes " + take, x.one(1, 0), take <= 20 ? 2 : 0);
        }
    }

    private static void leavesWithWrap() {
        check.by("3: Ints, which wrap: WORTH and leave, added");
        NotYet x = courted("leave 8192*8192*32 - 1;", 0, "");
        x.weeks(1);
        check.due("10 and the greatest int", x.one(1, 0), 2);
        NotYet y = courted("leave 8192*8192*32 - 1 - 10;", 999, "");
        y.weeks(1);
        check.due("the greatest int", y.one(1, 0), 0);
        NotYet z = courted("leave 8192*8192*32;", 0, "");
        z.weeks(1);
        check.due("the least int and 10", z.one(1, 0), 2);
    }

    private static void leftOneWithANumberAbove() {
        check.by("3: one of SIDE 0 with a number above who is single again in this week MEETS still");
        NotYet x = new NotYet();
        x.look(0, 0, 50, 0);
        x.look(0, 1, 10, 0);
        Check.way(x, 1, "leave 1;");
        Check.way(x, 2, "take 1 when week = 0;");
        x.come(0, 0, 2);
        x.come(1, 0, 1);
        x.come(0, 1, 0);
        x.set(5, 1);
        x.weeks(1);
        check.due("the one behind has her", x.one(1, 0), 2);
        x.weeks(1);
        check.due("now the one ahead has", x.one(1, 0), 0);
        check.due("who was left MEETS still", x.town(3), 4);
        check.due("WAITED a week", x.one(2, 1), 1);
    }

    private static void leftOneWithANumberBelow() {
        check.by("3: (All is asked as the ones ahead have left it: one with a number above MEETS still)");
        NotYet x = new NotYet();
        x.look(0, 0, 10, 0);
        x.look(0, 1, 50, 0);
        Check.way(x, 1, "leave 1;");
        x.come(0, 0, 0);
        x.come(1, 0, 1);
        x.come(0, 1, 0);
        x.set(5, 1);
        x.weeks(1);
        check.due("the one behind has her", x.one(1, 0), 2);
        check.due("who was left has been ahead", x.town(3), 2);
        check.due("made and left in one week", x.one(0, 6), 1);
        check.due("WAITED a week", x.one(0, 1), 1);
        check.due("not as old as a PAIR", x.one(0, 2), 0);
    }

    private static void leftOneIsSingle() {
        check.by("3: they are a PAIR, her own one is single");
        NotYet x = courted("leave 1;", 20, "");
        check.due("one PAIR", x.weeks(1), 1);
        int[] due = {-1, 1, 0, 0, -1, 0, 1, 0};
        for (int what = 0; what < 8; what++) {
            check.due("what " + what, x.one(0, what), due[what]);
        }
        check.due("she was not left", x.one(1, 6), 0);
        check.due("nor he", x.one(2, 6), 0);
        check.due("no parting", x.town(6), 0);
        check.due("single ones", x.all(0, -1, 1), 1);
    }

    private static void newPairIsNew() {
        check.by("3: PAIRS that are LATER weeks old and have not LOOKED AGAIN yet");
        NotYet x = courted("leave 1;", 20, "take 20;");
        x.set(5, 0);
        x.weeks(4);
        check.due("looked again with the first", x.one(1, 2), 5);
        x.set(5, 1);
        x.weeks(1);
        check.due("a new one", x.one(1, 2), 1);
        x.look(1, 0, 19, 0);
        check.due("1 week old", x.weeks(1), 1);
        check.due("2 weeks old", x.weeks(1), 1);
        x.set(5, 0);
        x.weeks(1);
        check.due("looks again with the new one too", x.one(2, 7), 1);
        NotYet y = couple(0, 10, "take 10 when week < 3; take 5;", "");
        y.weeks(3);
        y.worth(0, 0, 0, 5);
        check.due("they part, and 5 is taken", y.weeks(1), 1);
        check.due("parted", y.town(6), 1);
        y.worth(0, 0, 0, 4);
        check.due("3 weeks old", y.weeks(2), 1);
        check.due("the same two look again anew", y.weeks(1), 0);
        check.due("parted", y.town(6), 2);
        check.due("he parted twice", y.one(0, 7), 2);
        check.due("she parted twice", y.one(1, 7), 2);
    }

    private static void waitedOfSingleOnes() {
        check.by("3: Then all who are single have WAITED one week more, all PAIRS are a week older; WEEKS are one more");
        NotYet x = couple(5, 5, "take 6 - week;", "");
        x.weeks(1);
        check.due("he WAITED", x.one(0, 1), 1);
        check.due("she WAITED", x.one(1, 1), 1);
        check.due("no PAIR", x.one(0, 2), 0);
        x.weeks(1);
        check.due("he WAITED", x.one(0, 1), 1);
        check.due("she WAITED", x.one(1, 1), 1);
        check.due("a week old", x.one(0, 2), 1);
        check.due("a week old", x.one(1, 2), 1);
        check.due("WEEKS", x.town(0), 2);
    }

    private static void oneNoneSuch() {
        check.by("16: NONE - 9999999 if there is none such, or another what");
        NotYet x = new NotYet();
        for (int what = 0; what < 8; what++) {
            check.due("nobody there", x.one(0, what), NO_SUCH);
        }
        x.come(0, 0, 0);
        x.come(1, 0, 0);
        for (int p : new int[] {Integer.MIN_VALUE, -1, 2, 39, 40, Integer.MAX_VALUE}) {
            for (int what = 0; what < 8; what++) {
                check.due("one " + p, x.one(p, what), NO_SUCH);
            }
        }
        for (int what : new int[] {Integer.MIN_VALUE, -1, 8, 9, Integer.MAX_VALUE}) {
            check.due("what " + what, x.one(0, what), NO_SUCH);
            check.due("what " + what, x.one(1, what), NO_SUCH);
        }
        check.due("the last", x.one(1, 1), 0);
    }

    private static void oneOfASingleOne() {
        check.by("16: NONE: single; 0 for a single one");
        NotYet x = couple(30, 40, "take 41;", "");
        x.weeks(2);
        int[] due = {-1, 2, 0, 41, -1, 0, 0, 0};
        for (int what = 0; what < 8; what++) {
            check.due("what " + what, x.one(0, what), due[what]);
        }
    }

    private static void oneOfAPair() {
        check.by("16: what 0 .. 7");
        NotYet x = couple(30, 40, "take 7 + week; leave 9;", "leave 0 - 1;");
        x.weeks(2);
        int[] his = {1, 0, 2, 9, 9, 40, 0, 0};
        int[] hers = {0, 0, 2, 0, -1, 30, 0, 0};
        for (int what = 0; what < 8; what++) {
            check.due("his " + what, x.one(0, what), his[what]);
            check.due("hers " + what, x.one(1, what), hers[what]);
        }
        x.worth(0, 0, 0, 0);
        check.due("WORTH of 0", x.one(0, 5), 0);
        x.worth(0, 0, 0, 999);
        check.due("WORTH of 999", x.one(0, 5), 999);
    }

    private static void allOfASort() {
        check.by("17: Of all of a SIDE and a SORT (NONE: all SORTS)");
        NotYet x = new NotYet();
        x.sorts(0, 6);
        x.come(0, 5, 0);
        x.weeks(3);
        x.come(0, 0, 0);
        x.weeks(2);
        x.come(1, 0, 0);
        x.come(0, 5, 0);
        int[][] due = {{3, 3, 7, 5}, {1, 1, 2, 2}, {0, 0, 0, 0}, {2, 2, 5, 5}};
        int[] sorts = {-1, 0, 1, 5};
        for (int i = 0; i < 4; i++) {
            for (int what = 0; what < 4; what++) {
                check.due("sort " + sorts[i] + " what " + what, x.all(0, sorts[i], what), due[i][what]);
            }
        }
        x.weeks(1);
        check.due("those in PAIRS count too", x.all(0, -1, 0), 3);
        check.due("two are single", x.all(0, -1, 1), 2);
        check.due("she is not", x.all(1, 0, 1), 0);
        check.due("WAITED of one in a PAIR counts", x.all(0, -1, 2) + x.all(1, -1, 2), 9);
    }

    private static void allRefused() {
        check.by("17: NONE if one can't be, or another what");
        NotYet x = new NotYet();
        x.sorts(0, 1);
        x.sorts(1, 6);
        check.due("no SORT 1", x.all(0, 1, 0), -1);
        check.due("SORT 5", x.all(1, 5, 0), 0);
        check.due("no SORT 6", x.all(1, 6, 0), -1);
        for (int v : new int[] {Integer.MIN_VALUE, -2, 6, Integer.MAX_VALUE}) {
            check.due("sort " + v, x.all(0, v, 0), -1);
            check.due("sort " + v, x.all(1, v, 0), -1);
            check.due("side " + v, x.all(v, -1, 0), -1);
        }
        check.due("side 2", x.all(2, 0, 0), -1);
        check.due("side -1", x.all(-1, -1, 0), -1);
        for (int what : new int[] {Integer.MIN_VALUE, -1, 4, 5, Integer.MAX_VALUE}) {
            check.due("what " + what, x.all(0, -1, what), -1);
            check.due("what " + what, x.all(1, 0, what), -1);
        }
    }

    private static void townWhats() {
        check.by("18: What 0 .. 7; NONE for another what");
        NotYet x = courted("leave 5;", 20, "take 20;");
        x.state(5);
        x.weeks(1);
        x.look(1, 0, 19, 0);
        x.set(5, 0);
        x.weeks(3);
        // She leaves the first for the second, parts from the second, and has the first again in that week.
        int[] due = {5, 3, 1, 3, 3, 1, 1, next(next(5))};
        for (int what = 0; what < 8; what++) {
            check.due("what " + what, x.town(what), due[what]);
        }
        for (int what : new int[] {Integer.MIN_VALUE, -1, 8, 9, Integer.MAX_VALUE}) {
            check.due("what " + what, x.town(what), -1);
        }
    }

    private static void lastOfManyCalls() {
        check.by("An object is used for at most 512 calls after it has been made");
        NotYet x = new NotYet();
        int calls = 0;
        for (int i = 0; i < 40; i++, calls++) {
            x.come(i % 2, 0, 0);
        }
        for (int i = 0; i < 99; i++, calls++) {
            check.due("week " + i, x.weeks(1), 20);
        }
        for (; calls < 504 - 3; calls += 3) {
            x.feast(7);
            x.likes(0, 6, 0, calls % 100);
            check.due("one holds", x.holds(), 1);
        }
        for (; calls < 504; calls++) {
            x.state(calls);
        }
        for (int what = 0; what < 7; what++, calls++) {
            check.due("town " + what, x.town(what), new int[] {99, 40, 20, 20, 20, 0, 0}[what]);
        }
        check.due("calls", calls, 512 - 1);
        check.due("the 512th", x.one(39, 2), 99);
    }
}
