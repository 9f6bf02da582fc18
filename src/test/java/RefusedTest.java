import java.util.ArrayList;
import java.util.List;

/** Every refused call changes nothing that a later call shows; and no call that only asks does. */
public final class RefusedTest {
    private static final int NO_SUCH = -10000000;
    private static final int LOW = Integer.MIN_VALUE;
    private static final int HIGH = Integer.MAX_VALUE;
    private static final Check check = new Check();
    private static final List<Integer> untouched = Probe.see(Probe.town());

    /** One call, a boolean counted 1 or 0. */
    private interface Call {
        int on(NotYet x);
    }

    public static void main(String[] args) {
        everyChangeIsSeen();
        sorts();
        look();
        worth();
        set();
        askingOfSorts();
        tape();
        people();
        askingOfPeople();
        feast();
        askingOfFeast();
        everyRefusalAtOnce();
        fortyPeople();
        ninetyNineWeeks();
        check.close();
    }

    private static int bit(boolean b) {
        return b ? 1 : 0;
    }

    private static final List<Call> refusals = new ArrayList<>();

    private static void refused(String name, int answer, Call call) {
        NotYet x = Probe.town();
        check.due(name, call.on(x), answer);
        check.so(name + " changes nothing", Probe.see(x).equals(untouched));
        refusals.add(call);
    }

    private static void seen(String name, Call call) {
        NotYet x = Probe.town();
        call.on(x);
        check.so(name + " is seen", !Probe.see(x).equals(untouched));
    }

    /** What the probe could not see it could not guard. */
    private static void everyChangeIsSeen() {
        check.by("the probe");
        for (int i = 0; i < 7; i++) {
            int what = i;
            int[] v = {3, 151, 6, 10, 1, 0, 0};
            seen("set " + what, x -> bit(x.set(what, v[what])));
        }
        for (int i = 0; i < 4; i++) {
            int sort = i;
            int[] looks = {90, 60, 60, 20};
            int[] oftens = {100, 200, 300, 50};
            seen("LOOK " + sort, x -> bit(x.look(0, sort, looks[sort] - 20, oftens[sort])));
            seen("often " + sort, x -> bit(x.look(0, sort, looks[sort], oftens[sort] + 50)));
        }
        seen("LOOK", x -> bit(x.look(1, 1, 10, 450)));
        seen("often", x -> bit(x.look(1, 1, 30, 500)));
        seen("worth", x -> bit(x.worth(0, 0, 0, 10)));
        seen("worth untold", x -> bit(x.worth(0, 1, 1, -1)));
        seen("worth untold", x -> bit(x.worth(1, 0, 2, -1)));
        seen("feed", x -> x.feed(0, 0, 0, 0, 0));
        seen("end", x -> bit(x.end(17)));
        seen("way", x -> x.way(4));
        seen("come", x -> x.come(0, 0, 5));
        seen("state", x -> x.state(12346));
        seen("weeks", x -> x.weeks(1));
        seen("feast", x -> bit(x.feast(4)));
        for (int i = 0; i < 4; i++) {
            int k = i;
            seen("likes", x -> bit(x.likes(0, k, k, 99)));
            seen("likes", x -> bit(x.likes(1, k, 3 - k, 99)));
            seen("price", x -> bit(x.price(k, 99)));
        }
    }

    private static void sorts() {
        check.by("2: false, and nothing is done, if one can't be, or there are PEOPLE");
        for (int n : new int[] {LOW, -1, 0, 1, 2, 3, 4, 6, 7, HIGH}) {
            for (int side : new int[] {LOW, -1, 0, 1, 2, HIGH}) {
                refused("sorts " + side + " " + n, 0, x -> bit(x.sorts(side, n)));
            }
        }
    }

    private static void look() {
        check.by("3: false, and nothing is done, if one can't be");
        for (int v : new int[] {LOW, -1, 1000, HIGH}) {
            refused("look " + v, 0, x -> bit(x.look(0, 0, v, 1)));
            refused("often " + v, 0, x -> bit(x.look(0, 0, 1, v)));
            refused("side " + v, 0, x -> bit(x.look(v, 0, 1, 1)));
            refused("sort " + v, 0, x -> bit(x.look(0, v, 1, 1)));
        }
        refused("side 2", 0, x -> bit(x.look(2, 0, 1, 1)));
        refused("no SORT 4 of SIDE 0", 0, x -> bit(x.look(0, 4, 1, 1)));
        refused("no SORT 2 of SIDE 1", 0, x -> bit(x.look(1, 2, 1, 1)));
        refused("1001 of SIDE 0", 0, x -> bit(x.look(0, 3, 1, 401)));
        refused("1001 of SIDE 1", 0, x -> bit(x.look(1, 0, 1, 551)));
    }

    private static void worth() {
        check.by("4: false if one can't be");
        for (int v : new int[] {LOW, -2, 1000, HIGH}) {
            refused("worth " + v, 0, x -> bit(x.worth(0, 1, 1, v)));
            refused("side " + v, 0, x -> bit(x.worth(v, 0, 0, 1)));
            refused("i " + v, 0, x -> bit(x.worth(0, v, 0, 1)));
            refused("j " + v, 0, x -> bit(x.worth(0, 0, v, 1)));
        }
        refused("side -1", 0, x -> bit(x.worth(-1, 0, 0, 1)));
        refused("side 2", 0, x -> bit(x.worth(2, 0, 0, 1)));
        refused("i 4", 0, x -> bit(x.worth(0, 4, 0, 1)));
        refused("i 2", 0, x -> bit(x.worth(1, 2, 0, 1)));
        refused("j 2", 0, x -> bit(x.worth(0, 0, 2, 1)));
        refused("j 4", 0, x -> bit(x.worth(1, 0, 4, 1)));
        refused("i -1", 0, x -> bit(x.worth(0, -1, 0, -1)));
        refused("j -1", 0, x -> bit(x.worth(0, 0, -1, -1)));
    }

    private static void set() {
        check.by("5: false if one can't be");
        int[] least = {0, 1, 1, 0, 1, 0, 0};
        int[] most = {99, 999, 60, 99, 99, 1, 1};
        for (int i = 0; i < 7; i++) {
            int what = i;
            for (int v : new int[] {LOW, least[i] - 1, most[i] + 1, HIGH}) {
                refused("set " + what + " " + v, 0, x -> bit(x.set(what, v)));
            }
        }
        for (int what : new int[] {LOW, -1, 7, HIGH}) {
            refused("what " + what, 0, x -> bit(x.set(what, 1)));
        }
    }

    private static void askingOfSorts() {
        check.by("6 to 8: none such, one can't be, another what");
        for (int v : new int[] {LOW, -1, 9, HIGH}) {
            refused("classes what " + v, NO_SUCH, x -> x.classes(0, v));
            refused("classes k " + v, NO_SUCH, x -> x.classes(v, 1));
            refused("patience side " + v, -1, x -> x.patience(v, 0, 0));
            refused("patience sort " + v, -1, x -> x.patience(0, v, 0));
            refused("patience week " + v, -1, x -> x.patience(0, 0, v));
            refused("pairs i " + v, -1, x -> x.pairs(v, 0, 1, 0));
            refused("pairs j " + v, -1, x -> x.pairs(0, v, 1, 0));
            refused("pairs week " + v, -1, x -> x.pairs(0, 0, v, 0));
            refused("pairs what " + v, -1, x -> x.pairs(0, 0, 1, v));
        }
    }

    private static void tape() {
        check.by("9 to 12");
        for (int n : new int[] {LOW, -1, 19, 20, 400, HIGH}) {
            refused("end " + n, 0, x -> bit(x.end(n)));
        }
        for (int what : new int[] {LOW, -1, 2, HIGH}) {
            refused("fault " + what, -1, x -> x.fault(what));
        }
        check.by("9: NONE, and nothing comes, if there would be more than 400");
        NotYet x = Probe.town();
        NotYet y = Probe.town();
        x.end(0);
        y.end(0);
        String text = "take 7;leave 8;" + " ".repeat(366);
        Check.tell(x, text);
        Check.tell(y, text);
        check.due("381 and 20", x.feed(LOW, HIGH, -1, 0, 1), -1);
        check.so("changes nothing", Probe.see(x).equals(Probe.see(y)));
        check.by("11: a FAULT (it stays as it was)");
        for (int i = 0; i < 6; i++) {
            int k = i;
            NotYet wrong = Probe.town();
            check.due("a FAULT", wrong.way(k), -1);
            NotYet right = Probe.town();
            right.way(k == 0 ? 1 : 0);
            check.so("no WAY has changed", Probe.see(wrong).equals(Probe.see(right)));
        }
    }

    private static void people() {
        check.by("13: NONE if one can't be; 15: NONE if one can't be");
        for (int v : new int[] {LOW, -1, 6, HIGH}) {
            refused("come side " + v, -1, x -> x.come(v, 0, 0));
            refused("come sort " + v, -1, x -> x.come(0, v, 0));
            refused("come way " + v, -1, x -> x.come(0, 0, v));
        }
        refused("no SIDE 2", -1, x -> x.come(2, 0, 0));
        refused("no SORT 4 of SIDE 0", -1, x -> x.come(0, 4, 0));
        refused("no SORT 2 of SIDE 1", -1, x -> x.come(1, 2, 0));
        for (int n : new int[] {LOW, -1, 0, 21, 96, 97, HIGH}) {
            refused("weeks " + n, -1, x -> x.weeks(n));
        }
    }

    private static void askingOfPeople() {
        check.by("16 to 18: none such, one can't be, another what");
        for (int v : new int[] {LOW, -2, Probe.PEOPLE, HIGH}) {
            refused("one " + v, NO_SUCH, x -> x.one(v, 0));
            refused("one what " + v, NO_SUCH, x -> x.one(0, v));
            refused("all side " + v, -1, x -> x.all(v, -1, 0));
            refused("all sort " + v, -1, x -> x.all(0, v, 0));
            refused("all what " + v, -1, x -> x.all(0, -1, v));
            refused("town " + v, -1, x -> x.town(v));
        }
    }

    private static void feast() {
        check.by("19, 20, 24: false if one can't be");
        for (int v : new int[] {LOW, -1, 0, 8, HIGH}) {
            refused("feast " + v, 0, x -> bit(x.feast(v)));
        }
        for (int v : new int[] {LOW, -1, 4, 7, HIGH}) {
            refused("likes k " + v, 0, x -> bit(x.likes(0, v, 0, 1)));
            refused("likes j " + v, 0, x -> bit(x.likes(0, 0, v, 1)));
            refused("likes k " + v, 0, x -> bit(x.likes(1, v, 0, 1)));
            refused("likes j " + v, 0, x -> bit(x.likes(1, 0, v, 1)));
            refused("likes side " + v, 0, x -> bit(x.likes(v, 0, 0, 1)));
            refused("price of " + v, 0, x -> bit(x.price(v, 1)));
        }
        refused("likes side 2", 0, x -> bit(x.likes(2, 0, 0, 1)));
        for (int v : new int[] {LOW, -1, 100, HIGH}) {
            refused("likes " + v, 0, x -> bit(x.likes(0, 3, 3, v)));
            refused("likes " + v, 0, x -> bit(x.likes(1, 0, 0, v)));
        }
        for (int v : new int[] {LOW, -1, 1000, HIGH}) {
            refused("price " + v, 0, x -> bit(x.price(3, v)));
        }
    }

    private static void askingOfFeast() {
        check.by("22, 25: none such, one can't be, another what");
        for (int v : new int[] {LOW, -2, 4, HIGH}) {
            refused("pairing " + v, -1, x -> x.pairing(v, 0));
            refused("pairing of " + v, -1, x -> x.pairing(0, v));
            refused("sums what " + v, -1, x -> x.sums(0, v));
            refused("sums 1 of " + v, -1, x -> x.sums(v, 1));
            refused("sums 2 of " + v, -1, x -> x.sums(v, 2));
        }
    }

    /** Refused calls one behind the other, on a few towns so that none has more than 512 calls. */
    private static void everyRefusalAtOnce() {
        check.by("refused calls together");
        for (int from = 0; from < refusals.size(); from += 25) {
            NotYet x = Probe.town();
            for (int i = from; i < from + 25 && i < refusals.size(); i++) {
                refusals.get(i).on(x);
            }
            check.so("refusals from " + from, Probe.see(x).equals(untouched));
        }
    }

    private static void fortyPeople() {
        check.by("13: NONE if there are 40");
        NotYet x = Probe.town();
        NotYet y = Probe.town();
        for (int i = Probe.PEOPLE; i < 40; i++) {
            check.due("come", x.come(i % 2, 0, i % 6), i);
            y.come(i % 2, 0, i % 6);
        }
        for (int i = 0; i < 6; i++) {
            check.due("the 41st", x.come(i % 2, 0, i), -1);
        }
        check.so("changes nothing", Probe.see(x).equals(Probe.see(y)));
    }

    private static void ninetyNineWeeks() {
        check.by("15: NONE if there would be more than 99 WEEKS");
        for (int n = 1; n <= 20; n++) {
            NotYet x = Probe.town();
            NotYet y = Probe.town();
            for (int i = 0; i < 4; i++) {
                x.weeks(20);
                y.weeks(20);
            }
            // 83 have gone by; with so many more of them n are one too many.
            int first = Math.max(0, 17 - n);
            if (first > 0) {
                x.weeks(first);
                y.weeks(first);
            }
            check.due("weeks " + n, x.weeks(n), -1);
            check.so("changes nothing", Probe.see(x).equals(Probe.see(y)));
        }
    }
}
