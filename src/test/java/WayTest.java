/** Promises 9 to 12: the TAPE, WAYS as TEXTS and their FAULTS. */
public final class WayTest {
    private static final Check check = new Check();

    public static void main(String[] args) {
        feed();
        end();
        way();
        faultOne();
        faultTwo();
        faultThree();
        fault();
        values();
        facts();
        check.close();
    }

    private static void feed() {
        NotYet x = new NotYet();
        for (int i = 1; i <= 20; i++) {
            check.due("9", x.feed(0x20202020, 0x20202020, 0x20202020, 0x20202020, 0x20202020), 20 * i);
        }
        check.due("9 full", x.feed(0, 0, 0, 0, 0), -1);
        check.due("9 nothing came", x.end(401), false);
        x.end(381);
        check.due("9 401", x.feed(0, 0, 0, 0, 0), -1);
        x.end(380);
        check.due("9 400", x.feed(0x20202020, 0x20202020, 0x20202020, 0x20202020, 0x20202020), 400);
        check.due("9 blanks alone", x.way(0), 0);
        check.due("9 highest first", x.feed(0x74616b65, 0x20353b0a, 0x6c656176, 0x6520313b, 0x0a0a0a0a), 20);
        check.due("9 lines", x.way(1), 2);
    }

    private static void end() {
        NotYet x = new NotYet();
        check.due("10 empty", x.end(0), true);
        check.due("10 below", x.end(-1), false);
        check.due("10 above", x.end(1), false);
        Check.tell(x, "take 5;");
        check.due("10 not so many", x.end(8), false);
        check.due("10 least", x.end(Integer.MIN_VALUE), false);
        check.due("10 all", x.end(7), true);
        check.due("10 fewer", x.end(4), true);
        check.due("10 cut", x.end(5), false);
        check.due("10 fault at the end", x.way(0), -1);
        check.due("10 fault at the end", x.fault(1), 4);
    }

    private static void way() {
        NotYet x = new NotYet();
        int p = x.come(0, 0, 0);
        check.due("11 empty at first", x.one(p, 3), 0);
        check.due("11 never at first", x.one(p, 4), -1);
        check.due("11 lines", Check.way(x, 0, "take 5;leave 7;take 9;"), 3);
        check.due("11 take", x.one(p, 3), 5);
        check.due("11 leave", x.one(p, 4), 7);
        check.due("11 tape is empty", x.end(1), false);
        check.due("11 fault", Check.way(x, 0, "take 6;leave"), -1);
        check.due("11 tape is empty", x.end(1), false);
        check.due("11 stays", x.one(p, 3), 5);
        check.due("11 stays", x.one(p, 4), 7);
        check.due("11 other way", Check.way(x, 5, "take 8;"), 1);
        check.due("11 stays", x.one(p, 3), 5);
        check.due("11 no such", Check.way(x, 6, "take"), -1);
        check.due("11 no fault", x.fault(0), 0);
        check.due("11 no place", x.fault(1), -1);
        check.due("11 tape is empty", x.end(1), false);
        check.due("11 no such", x.way(-1), -1);
        check.due("11 empty again", x.way(0), 0);
        check.due("11 nothing to take", x.one(p, 3), 0);
        check.due("11 never", x.one(p, 4), -1);
        check.due("11 twelve", Check.way(x, 0, "take 1;".repeat(12)), 12);
    }

    private static void faulty(String text, int fault, int place) {
        NotYet x = new NotYet();
        check.due("way " + text, Check.way(x, 0, text), -1);
        check.due("fault of " + text, x.fault(0), fault);
        check.due("place in " + text, x.fault(1), place);
    }

    private static void fine(String text, int lines) {
        NotYet x = new NotYet();
        check.due("way " + text, Check.way(x, 0, text), lines);
        check.due("fault of " + text, x.fault(0), 0);
        check.due("place in " + text, x.fault(1), -1);
    }

    private static void faultOne() {
        faulty("take", 1, 4);
        faulty("take  ", 1, 6);
        faulty("5", 1, 0);
        faulty("  ;", 1, 2);
        faulty("taken 5;", 1, 0);
        faulty("take5 5;", 1, 6);
        faulty("Take 5;", 1, 0);
        faulty("takeX 5;", 1, 0);
        faulty("takeA 5;", 1, 0);
        faulty("takeZ 5;", 1, 0);
        faulty("takez 5;", 1, 0);
        faulty("take@ 5;", 1, 4);
        faulty("take[ 5;", 1, 4);
        faulty("take` 5;", 1, 4);
        faulty("take{ 5;", 1, 4);
        faulty(" ".repeat(399) + "x", 1, 399);
        fine("take 1" + "+1".repeat(196) + " ;", 1);
        faulty("take 12345;", 1, 5);
        faulty("take 00000;", 1, 5);
        faulty("take (5);", 1, 5);
        faulty("take -5;", 1, 5);
        faulty("take 5", 1, 6);
        faulty("take 5 take 6;", 1, 7);
        faulty("take 5;;", 1, 7);
        faulty("take 5 when 1;", 1, 13);
        faulty("take 5 when 1<2<3;", 1, 15);
        faulty("take 5 when (1<2;", 1, 16);
        faulty("take 5 when 1<2);", 1, 15);
        faulty("take 5 when (1)<2;", 1, 14);
        faulty("take 5 when not;", 1, 15);
        faulty("take 5 when 1<2 and;", 1, 19);
        faulty("take 5 when 1<2 or or 1<2;", 1, 19);
        faulty("take 5 when 1<2 not 1<2;", 1, 16);
        faulty("take 5 / week;", 1, 9);
        faulty("take 5 / 12345;", 1, 9);
        faulty("take 5 * ;", 1, 9);
        faulty("take 5 + + 5;", 1, 9);
        faulty("take 5 ? 5;", 1, 7);
        faulty("take\t5;", 1, 4);
        faulty("take 5;\u00e9", 1, 7);
        faulty("take 5;\u0000", 1, 7);
        faulty("take take;", 1, 5);
        faulty("take when 1<2;", 1, 5);
        faulty("when 5;", 1, 0);
        fine("take5;", 1);
        fine("take\n5\n;\n", 1);
        fine("take 9999*week/9999-waited+sort;leave best;", 2);
        fine("take 0when 1<2and 2>1or not(1=1);", 1);
    }

    private static void faultTwo() {
        faulty("take 5/0;", 2, 7);
        faulty("take 5/0000;", 2, 7);
        faulty("take 5/0 0", 2, 7);
        faulty("take 5/1/0*", 2, 9);
        faulty("take 5 when 3 < 4 / 0;", 2, 20);
        faulty("take ? 5/0;", 1, 5);
        fine("take 0/1;", 1);
        fine("take 5/0001;", 1);
    }

    private static void faultThree() {
        String twelve = "take 1;".repeat(12);
        fine(twelve, 12);
        fine(twelve + "  ", 12);
        faulty(twelve + " take", 3, 85);
        faulty(twelve + "leave 1;", 3, 84);
        faulty(twelve + "when", 1, 84);
        faulty(twelve + ";", 1, 84);
        fine("take 1 when ((((((((1=1))))))));", 1);
        faulty("take 1 when (((((((((1=1)))))))));", 3, 20);
        fine("take 1 when not not not not not not not not 1=1;", 1);
        faulty("take 1 when not not not not not not not not not 1=1;", 3, 44);
        fine("take 1 when not(not(not(not(1=1))));", 1);
        faulty("take 1 when not(not(not(not((1=1)))));", 3, 28);
        faulty("take 1 when ((((((((not", 3, 20);
        fine("take 1 when " + "(1=1)or ".repeat(12) + "not 1=1 and not 1=1;", 1);
        fine("take 1 when " + "not ".repeat(8) + "1=1 and " + "not ".repeat(8) + "1=1;", 1);
    }

    private static void fault() {
        NotYet x = new NotYet();
        check.due("12 before", x.fault(0), 0);
        check.due("12 before", x.fault(1), -1);
        Check.way(x, 0, "take 5/0;");
        check.due("12", x.fault(0), 2);
        check.due("12", x.fault(1), 7);
        check.due("12 stays", x.fault(0), 2);
        check.due("12", x.fault(2), -1);
        check.due("12", x.fault(-1), -1);
        Check.way(x, 0, "take 5;");
        check.due("12 latest", x.fault(0), 0);
        check.due("12 latest", x.fault(1), -1);
    }

    private static void value(String text, int want) {
        NotYet x = new NotYet();
        Check.way(x, 0, text);
        x.come(0, 0, 0);
        check.due(text, x.one(0, 3), want);
    }

    private static void values() {
        value("take 2 + 3 * 4;", 14);
        value("take 1" + "+1".repeat(196) + " ;", 197);
        value("take 2 * 3 + 4;", 10);
        value("take 10 - 3 - 4;", 3);
        value("take 10 - 3 + 4;", 11);
        value("take 100 / 7 / 2;", 7);
        value("take 100 / 7 * 7;", 98);
        value("take 7 * 100 / 7;", 100);
        value("take 1 - 8 / 3;", -1);
        value("take 0 * 1 - 8;", -8);
        value("take 2 * 3 * 4 - 2 * 5 / 3 + 1;", 22);
        value("take 9999 * 9999 * 9999;", 9999 * 9999 * 9999);
        value("take 9999 * 9999 * 9999 / 10;", 9999 * 9999 * 9999 / 10);
        value("take 1 when 1 < 1; take 2 when 1 > 1; take 3 when 1 = 1;", 3);
        value("take 1 when 1 < 2; take 2;", 1);
        value("take 1 when 1 = 2; leave 9;", 0);
        value("leave 9; take 4; take 5;", 4);
        value("take 1 when 1=1 or 1=2 and 1=2; take 2;", 1);
        value("take 1 when 1=2 and 1=2 or 1=1; take 2;", 1);
        value("take 1 when (1=1 or 1=2) and 1=2; take 2;", 2);
        value("take 1 when not 1=2 and 1=2; take 2;", 2);
        value("take 1 when not (1=2 and 1=2); take 2;", 1);
        value("take 1 when not 1=1 or 1=1; take 2;", 1);
        value("take 1 when not not 1=2; take 2;", 2);
        value("take 1 when 1=2 or 1=2 or 3=3; take 2;", 1);
        value("take 1 when 1 + 2 * 3 = 14 / 2; take 2;", 1);
        value("take 1 when 0 - 1 < 0; take 2;", 1);
        value("take 1 when " + "(1=2 or 1=1 and ".repeat(8) + "2=2" + ")".repeat(8) + "; take 2;", 1);
    }

    private static void facts() {
        NotYet x = new NotYet();
        x.set(0, 0);
        x.set(2, 4);
        x.look(0, 1, 40, 100);
        x.look(1, 0, 100, 300);
        x.look(1, 2, 700, 200);
        int p = x.come(0, 1, 0);
        int q = x.come(1, 2, 1);
        check.due("week", fact(x, p, "week"), 0);
        Check.way(x, 1, "take 9999;");
        x.weeks(2);
        check.due("week", fact(x, p, "week"), 2);
        check.due("waited", fact(x, p, "waited"), 2);
        check.due("sort", fact(x, p, "sort"), 1);
        check.due("mine", fact(x, p, "mine"), 40);
        check.due("best", fact(x, p, "best"), 700);
        check.due("told", fact(x, p, "told"), 0);
        x.set(6, 1);
        check.due("told", fact(x, p, "told"), 1);
        check.due("wait behind 3", fact(x, p, "wait"), 170);
        check.due("patience", x.patience(0, 1, 3), 170);
        x.weeks(1);
        check.due("wait behind the last", fact(x, p, "wait"), 0);
        x.set(2, 60);
        check.due("wait as it is now", fact(x, p, "wait"), x.patience(0, 1, 4));
        x.set(2, 2);
        check.due("wait from the last on", fact(x, p, "wait"), 0);
        Check.way(x, 1, "take best;leave mine;");
        check.due("her best", x.one(q, 3), 40);
        check.due("her mine", x.one(q, 4), 700);
    }

    private static int fact(NotYet x, int p, String name) {
        check.due("way of " + name, Check.way(x, 0, "take 9999 when week < 0; take " + name + ";"), 2);
        return x.one(p, 3);
    }
}
