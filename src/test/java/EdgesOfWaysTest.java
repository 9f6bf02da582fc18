/** The edges that Term 3 names of TEXTS, and those of promises 9 to 12, sentence by sentence. */
public final class EdgesOfWaysTest {
    private static final int BLANKS = 0x20202020;
    private static final int[] NOT_WAYS = {Integer.MIN_VALUE, -2, -1, 6, 7, Integer.MAX_VALUE};
    private static final Check check = new Check();

    public static void main(String[] args) {
        feedCounts();
        feedFull();
        feedRefusedKeepsTheTape();
        feedHighestFirst();
        endKeepsTheFirst();
        endRefused();
        wayEmptiesTheTape();
        wayOfAnEmptyTape();
        waysAreSix();
        noSuchWay();
        wayStaysAtAFault();
        faultBefore();
        faultOfTheLatest();
        faultWhat();
        emptyAtFirst();
        letters();
        digits();
        signs();
        blanks();
        atTheEnd();
        firstByItsPlace();
        atOnePlaceTheLeast();
        partByNought();
        thirteenthLine();
        ninthOpen();
        openOnesThatAreShut();
        longTexts();
        wrapAround();
        partTowardsNought();
        comparisons();
        firstOfItsLines();
        withoutALine();
        waitFromTheLastWeekOn();
        factsAtTheirEdges();
        waitAsOneMeets();
        joined();
        check.close();
    }

    private static int blanks(NotYet x) {
        return x.feed(BLANKS, BLANKS, BLANKS, BLANKS, BLANKS);
    }

    private static void faulty(String text, int fault, int place) {
        NotYet x = new NotYet();
        check.due("way of " + text, Check.way(x, 0, text), -1);
        check.due("fault of " + text, x.fault(0), fault);
        check.due("place in " + text, x.fault(1), place);
    }

    private static void fine(String text, int lines) {
        NotYet x = new NotYet();
        check.due("way of " + text, Check.way(x, 0, text), lines);
        check.due("fault of " + text, x.fault(0), 0);
        check.due("place in " + text, x.fault(1), -1);
    }

    private static void taken(String text, int want) {
        NotYet x = new NotYet();
        check.so("no fault in " + text, Check.way(x, 0, text) >= 0);
        x.come(0, 0, 0);
        check.due("take by " + text, x.one(0, 3), want);
    }

    private static void left(String text, int want) {
        NotYet x = new NotYet();
        check.so("no fault in " + text, Check.way(x, 0, text) >= 0);
        x.come(1, 0, 0);
        check.due("leave by " + text, x.one(0, 4), want);
    }

    private static void feedCounts() {
        check.by("9: Twenty bytes come behind the TAPE: how many it has");
        NotYet x = new NotYet();
        check.due("empty", x.end(1), false);
        for (int i = 1; i <= 20; i++) {
            check.due("feed " + i, blanks(x), 20 * i);
        }
        check.due("all are there", x.end(400), true);
    }

    private static void feedFull() {
        check.by("9: NONE, and nothing comes, if there would be more than 400");
        for (int had = 375; had <= 400; had++) {
            NotYet x = new NotYet();
            for (int i = 0; i < 20; i++) {
                blanks(x);
            }
            check.due("cut", x.end(had), true);
            check.due("behind " + had, blanks(x), had <= 380 ? had + 20 : -1);
            int now = had <= 380 ? had + 20 : had;
            check.due("not one more", x.end(now + 1), false);
            check.due("as many", x.end(now), true);
        }
    }

    private static void feedRefusedKeepsTheTape() {
        check.by("9: NONE, and nothing comes");
        NotYet x = new NotYet();
        x.come(0, 0, 0);
        String text = "take 7; leave 8;" + " ".repeat(384);
        Check.tell(x, text);
        for (int i = 0; i < 3; i++) {
            check.due("full", x.feed(-1, -1, -1, -1, -1), -1);
        }
        check.due("the TAPE as it was", x.way(0), 2);
        check.due("take", x.one(0, 3), 7);
        check.due("leave", x.one(0, 4), 8);
        check.due("room again", blanks(x), 20);
    }

    private static void feedHighestFirst() {
        check.by("9: of each number the highest first");
        NotYet x = new NotYet();
        x.come(0, 0, 0);
        // "take", " 123", "4 + ", "5;\n ", "    "
        check.due("feed", x.feed(0x74616b65, 0x20313233, 0x34202b20, 0x353b0a20, BLANKS), 20);
        check.due("one line", x.way(0), 1);
        check.due("1234 + 5", x.one(0, 3), 1239);
        for (int at = 0; at < 20; at++) {
            int[] numbers = {BLANKS, BLANKS, BLANKS, BLANKS, BLANKS};
            int shift = 24 - 8 * (at % 4);
            numbers[at / 4] = BLANKS & ~(255 << shift) | 255 << shift;
            x.feed(numbers[0], numbers[1], numbers[2], numbers[3], numbers[4]);
            check.due("255 can't stand", x.way(0), -1);
            check.due("at its place", x.fault(1), at);
        }
    }

    private static void endKeepsTheFirst() {
        check.by("10: The TAPE has its first n bytes alone: true");
        NotYet x = new NotYet();
        x.come(0, 0, 0);
        Check.tell(x, "take 1;take 2;");
        check.due("all", x.end(14), true);
        check.due("the first seven", x.end(7), true);
        check.due("the rest is gone", x.end(8), false);
        check.due("what comes is behind them", x.feed(0x6c656176, 0x6520333b, BLANKS, BLANKS, BLANKS), 27);
        check.due("lines", x.way(0), 2);
        check.due("take", x.one(0, 3), 1);
        check.due("leave", x.one(0, 4), 3);
        Check.tell(x, "take 9;");
        check.due("none", x.end(0), true);
        check.due("none", x.end(1), false);
        check.due("an empty WAY", x.way(0), 0);
    }

    private static void endRefused() {
        check.by("10: false, changing nothing, if it has not so many, or n is below 0");
        NotYet x = new NotYet();
        check.due("empty: 0", x.end(0), true);
        check.due("empty: 1", x.end(1), false);
        check.due("empty: -1", x.end(-1), false);
        Check.tell(x, "take 5;");
        for (int n : new int[] {Integer.MIN_VALUE, -1, 8, 20, 400, 401, Integer.MAX_VALUE}) {
            check.due("end " + n, x.end(n), false);
        }
        check.due("seven still", x.end(7), true);
        check.due("as it was", x.way(0), 1);
    }

    private static void wayEmptiesTheTape() {
        check.by("11: The TAPE, empty then");
        for (String text : new String[] {"", "take 5;", "take", "take 5/0;"}) {
            for (int k : new int[] {0, 5, 6, -1}) {
                NotYet x = new NotYet();
                Check.way(x, k, text);
                check.due("none left", x.end(1), false);
                check.due("the next is the first", blanks(x), 20);
            }
        }
    }

    private static void wayOfAnEmptyTape() {
        check.by("3: {(take | leave) E [when B] ;}: a TEXT may be empty; 11: how many lines");
        NotYet x = new NotYet();
        x.come(0, 0, 0);
        Check.way(x, 0, "take 5; leave 6;");
        check.due("told", x.one(0, 3), 5);
        check.due("no lines", x.way(0), 0);
        check.due("no fault", x.fault(0), 0);
        check.due("no place", x.fault(1), -1);
        check.due("empty", x.one(0, 3), 0);
        check.due("empty", x.one(0, 4), -1);
        fine(" ", 0);
        fine("\n", 0);
        fine(" \n".repeat(200), 0);
    }

    private static void waysAreSix() {
        check.by("3: WAYS 0 .. 5");
        NotYet x = new NotYet();
        for (int k = 0; k < 6; k++) {
            check.due("way " + k, Check.way(x, k, "take " + (10 + k) + ";"), 1);
            check.due("one by it", x.come(k % 2, 0, k), k);
        }
        for (int k = 0; k < 6; k++) {
            check.due("each its own", x.one(k, 3), 10 + k);
        }
    }

    private static void noSuchWay() {
        check.by("11: NONE: no such WAY (fault() tells 0)");
        for (int k : NOT_WAYS) {
            NotYet x = new NotYet();
            for (int i = 0; i < 6; i++) {
                Check.way(x, i, "take " + i + ";");
                x.come(0, 0, i);
            }
            Check.way(x, 0, "take 5/0;");
            check.due("a fault ahead", x.fault(0), 2);
            check.due("way " + k, Check.way(x, k, "take 77;"), -1);
            check.due("no fault", x.fault(0), 0);
            check.due("no place", x.fault(1), -1);
            check.due("nor by a wrong text", Check.way(x, k, "take"), -1);
            check.due("no fault", x.fault(0), 0);
            check.due("no place", x.fault(1), -1);
            for (int i = 0; i < 6; i++) {
                check.due("WAYS as they were", x.one(i, 3), i);
            }
        }
    }

    private static void wayStaysAtAFault() {
        check.by("11: NONE: a FAULT (it stays as it was)");
        String[] wrong = {"take 9; leave 9; take", "take 9/0;", "take 9;".repeat(13), "take 9; leave 9; ?", "leave 9;9"};
        for (String text : wrong) {
            for (int k = 0; k < 6; k++) {
                NotYet x = new NotYet();
                Check.way(x, k, "take 3; leave 4;");
                x.come(0, 0, k);
                check.due("way of " + text, Check.way(x, k, text), -1);
                check.due("take", x.one(0, 3), 3);
                check.due("leave", x.one(0, 4), 4);
            }
        }
    }

    private static void faultBefore() {
        check.by("12: what 0 the FAULT (0 without one), 1 its place (NONE)");
        NotYet x = new NotYet();
        check.due("without a way()", x.fault(0), 0);
        check.due("without a way()", x.fault(1), -1);
        blanks(x);
        x.end(3);
        check.due("a TAPE is no way()", x.fault(0), 0);
        check.due("a TAPE is no way()", x.fault(1), -1);
    }

    private static void faultOfTheLatest() {
        check.by("12: Of the latest way()");
        NotYet x = new NotYet();
        Check.way(x, 0, "take 5 / 0;");
        check.due("fault", x.fault(0), 2);
        check.due("place", x.fault(1), 9);
        check.due("told again", x.fault(0), 2);
        Check.way(x, 1, "?");
        check.due("of another WAY", x.fault(0), 1);
        check.due("of another WAY", x.fault(1), 0);
        Check.tell(x, "take 5;");
        check.due("not yet", x.fault(0), 1);
        x.way(1);
        check.due("none", x.fault(0), 0);
        check.due("none", x.fault(1), -1);
    }

    private static void faultWhat() {
        check.by("12: NONE for another what");
        NotYet x = new NotYet();
        Check.way(x, 0, "take 5 / 0;");
        for (int what : new int[] {Integer.MIN_VALUE, -1, 2, 3, Integer.MAX_VALUE}) {
            check.due("what " + what, x.fault(what), -1);
        }
    }

    private static void emptyAtFirst() {
        check.by("3: WAYS are TEXTS (empty at first)");
        NotYet x = new NotYet();
        x.look(1, 0, 999, 0);
        for (int k = 0; k < 6; k++) {
            x.come(0, 0, k);
            check.due("takes all", x.one(k, 3), 0);
            check.due("never leaves", x.one(k, 4), -1);
        }
    }

    private static void letters() {
        check.by("3: letters as many as stand together are KEYWORDS (those told here) or none");
        String[] units = {"week", "waited", "sort", "mine", "best", "told", "wait"};
        for (String unit : units) {
            fine("take " + unit + ";", 1);
            faulty("take " + unit + "s;", 1, 5);
            faulty("take x" + unit + ";", 1, 5);
            faulty("take " + unit.substring(0, unit.length() - 1) + ";", 1, 5);
            faulty("take " + unit.toUpperCase() + ";", 1, 5);
            faulty("take" + unit + ";", 1, 0);
            faulty("take " + unit + unit + ";", 1, 5);
            faulty("take " + unit.substring(0, 2) + " " + unit.substring(2) + ";", 1, 5);
            fine("take 5when" + " " + unit + "<5;", 1);
            faulty("take 5when" + unit + "<5;", 1, 6);
        }
        for (String head : new String[] {"take", "leave"}) {
            fine(head + " 5;", 1);
            fine(head + "5;", 1);
            faulty(head.substring(1) + " 5;", 1, 0);
            faulty(head + "a 5;", 1, 0);
            faulty(head + "z 5;", 1, 0);
        }
        for (char c = 'a'; c <= 'z'; c++) {
            faulty("take" + c + " 5;", 1, 0);
            faulty("take" + Character.toUpperCase(c) + " 5;", 1, 0);
            faulty(Character.toUpperCase(c) + "take 5;", 1, 0);
        }
        String[] words = {"take 5 ;", "leave 5 ;", "take 5 when 1=1 ;", "take 5 when 1=1 or 1=1 ;", "take 5 when 1=1 and 1=1 ;",
            "take 5 when not 1=1 ;", "take week ;", "take waited ;", "take sort ;", "take mine ;", "take best ;", "take told ;",
            "take wait ;"};
        for (String text : words) {
            fine(text, 1);
            for (int i = 0; i < text.length(); i++) {
                if (Character.isLetter(text.charAt(i))) {
                    faulty(text.substring(0, i) + 'x' + text.substring(i + 1), 1, text.lastIndexOf(' ', i) + 1);
                }
            }
        }
        faulty("take 5 whenever 1=1;", 1, 7);
        faulty("take 5 when 1=1 ore 1=1;", 1, 16);
        faulty("take 5 when 1=1 andnot 1=1;", 1, 16);
        faulty("take 5 when notnot 1=1;", 1, 12);
        fine("take 5when 1=1and 1=1or not not 1=1;", 1);
        faulty("a", 1, 0);
        faulty("z".repeat(400), 1, 0);
    }

    private static void digits() {
        check.by("3: digits as many as stand together NUMBERS of 1 to 4 digits or none");
        taken("take 0;", 0);
        taken("take 9;", 9);
        taken("take 9999;", 9999);
        taken("take 0000;", 0);
        taken("take 0010;", 10);
        faulty("take 10000;", 1, 5);
        faulty("take 00000;", 1, 5);
        faulty("take 00001;", 1, 5);
        faulty("take 5 + 12345;", 1, 9);
        faulty("take 5 when 1 < 12345;", 1, 16);
        faulty("take " + "1".repeat(395), 1, 5);
        faulty("take 99 99;", 1, 8);
        faulty("take 5take 5;", 1, 6);
        taken("take 0123;", 123);
    }

    private static void signs() {
        check.by("3: ; + - * / ( ) < = >: another sign is no TOKEN");
        String told = ";+-*/()<=>";
        for (int sign = 0; sign < 256; sign++) {
            char c = (char) sign;
            boolean letter = sign >= 'a' && sign <= 'z' || sign >= 'A' && sign <= 'Z';
            boolean digit = sign >= '0' && sign <= '9';
            boolean blank = sign == 32 || sign == 10;
            if (!letter && !digit && !blank && told.indexOf(c) < 0) {
                faulty("take 5 " + c + " 5;", 1, 7);
                faulty("take" + c + "5;", 1, 4);
                faulty(c + "take 5;", 1, 0);
                faulty("take 5;" + c, 1, 7);
            }
        }
        for (int i = 0; i < told.length(); i++) {
            char c = told.charAt(i);
            boolean joins = "+-*/".indexOf(c) >= 0;
            NotYet x = new NotYet();
            check.due("5 " + c + " 5", Check.way(x, 0, "take 5" + c + "5;"), joins ? 1 : -1);
            boolean compares = "<=>".indexOf(c) >= 0;
            check.due("when 5 " + c + " 5", Check.way(x, 0, "take 5 when 5" + c + "5;"), compares ? 1 : -1);
        }
    }

    private static void blanks() {
        check.by("3: Blanks (32, 10) between");
        fine("\n take \n\n 5 \n when \n 1 \n = \n 1 \n ; \n", 1);
        fine("take 5when(1=1)and not(1=2);leave 5;", 2);
        fine("take5when 5<5;", 1);
        faulty("take\r5;", 1, 4);
        faulty("take\t5;", 1, 4);
        faulty("take\u00a05;", 1, 4);
        faulty("take\u00005;", 1, 4);
        faulty("ta ke 5;", 1, 0);
        faulty("take 5 5;", 1, 7);
    }

    private static void atTheEnd() {
        check.by("3: 1 what can't stand there (the end: the text's length)");
        String whole = "take 12 + week * 3 / 4 when not ( 1 < 2 and 3 = 3 ) or 5 > 4 ;";
        for (int n = 1; n < whole.length(); n++) {
            String text = whole.substring(0, n);
            // A KEYWORD that is cut is no KEYWORD, and that stands ahead of the end.
            String last = text.substring(text.lastIndexOf(' ') + 1);
            boolean cut = last.matches("[a-z]+") && whole.charAt(n) != ' ';
            faulty(text, 1, cut ? n - last.length() : n);
        }
        fine(whole, 1);
        faulty("take  ", 1, 6);
        faulty("take\n", 1, 5);
        faulty("take 5" + " ".repeat(394), 1, 400);
        faulty(" ".repeat(396) + "take", 1, 400);
    }

    private static void firstByItsPlace() {
        check.by("3: FAULTS, the first by its place");
        faulty("take 5/0 + ?;", 2, 7);
        faulty("take ? + 5/0;", 1, 5);
        faulty("take 5/0; take 5/0;", 2, 7);
        faulty("take 5/1; take 5/0; ?", 2, 17);
        faulty("take 1;".repeat(12) + "take 5/0;", 3, 84);
        faulty("take 1;".repeat(11) + "take 5/0; take 1;", 2, 84);
        faulty("take 5 when (((((((((5/0=1", 3, 20);
        faulty("take 5/0 when (((((((((5=1", 2, 7);
        faulty("take 5 when ((((((((5/0=1 and (1=1", 2, 22);
        faulty("take 5 5/0;", 1, 7);
        faulty("take 5 12345/0;", 1, 7);
    }

    private static void atOnePlaceTheLeast() {
        check.by("3: at one place the least");
        String eight = "take 5 when ((((((((";
        faulty(eight + "1=(1", 1, 22);
        faulty(eight + "1(", 1, 21);
        faulty(eight + "1=1 not", 1, 24);
        faulty(eight + "1=1 (", 1, 24);
        faulty(eight + "1=not", 1, 22);
        faulty("take 5 when " + "not ".repeat(8) + "1 not", 1, 46);
        faulty("take 5/00000;", 1, 7);
        faulty("take 5/0x;", 2, 7);
    }

    private static void partByNought() {
        check.by("3: 2 (at the NUMBER) a part by 0");
        faulty("take 5/0;", 2, 7);
        faulty("take 5 /\n\n 0 ;", 2, 11);
        faulty("take 5/00;", 2, 7);
        faulty("take 5/000;", 2, 7);
        faulty("take 5/0000;", 2, 7);
        faulty("leave 0/0;", 2, 8);
        faulty("take 5/1/0;", 2, 9);
        faulty("take 5*0/0;", 2, 9);
        faulty("take 1 when 5/0 = 1;", 2, 14);
        faulty("take 1 when 1 = 5/0;", 2, 18);
        faulty("take 5/0", 2, 7);
        taken("take 5/1;", 5);
        taken("take 0/9999;", 0);
        taken("take 5*0;", 0);
        taken("take 5/0001;", 5);
        faulty("take 5/week;", 1, 7);
        faulty("take 5/(1);", 1, 7);
        faulty("take 5/;", 1, 7);
        faulty("take 5/", 1, 7);
    }

    private static void thirteenthLine() {
        check.by("3: 3 (at its KEYWORD) the 13th line");
        for (int lines = 1; lines <= 12; lines++) {
            fine("take 1;".repeat(lines), lines);
        }
        String twelve = "take 1;leave 2;".repeat(6);
        fine(twelve, 12);
        fine(twelve + " \n ", 12);
        faulty(twelve + "take 1;", 3, 90);
        faulty(twelve + " \nleave 1;", 3, 92);
        faulty(twelve + "take", 3, 90);
        faulty(twelve + "leave ?", 3, 90);
        faulty(twelve + "takes 1;", 1, 90);
        faulty(twelve + "1", 1, 90);
        faulty(twelve + ";", 1, 90);
        faulty(twelve + "when", 1, 90);
        faulty("take 1;".repeat(12) + "take 1;".repeat(12), 3, 84);
        faulty("take 1;".repeat(11) + "take 1", 1, 83);
        NotYet x = new NotYet();
        x.come(0, 0, 0);
        check.due("twelve", Check.way(x, 0, "take 1 when 1=2;".repeat(11) + "take 12;"), 12);
        check.due("the twelfth is asked", x.one(0, 3), 12);
    }

    private static void ninthOpen() {
        check.by("3: 3 (at it) the 9th ( or not that is open");
        String head = "take 1 when ";
        for (int bits = 0; bits < 512; bits++) {
            StringBuilder nine = new StringBuilder(head);
            int eighth = 0;
            for (int i = 0; i < 9; i++) {
                eighth = nine.length();
                nine.append((bits >> i & 1) == 0 ? "( " : "not ");
            }
            faulty(nine.toString(), 3, eighth);
            String eight = nine.substring(0, eighth);
            String shut = ")".repeat(8 - Integer.bitCount(bits & 255));
            fine(eight + "1=1" + shut + ";", 1);
        }
    }

    private static void openOnesThatAreShut() {
        check.by("3: that is open");
        String head = "take 1 when ";
        fine(head + "(1=1) and ".repeat(20) + "(1=1);", 1);
        fine(head + "not 1=1 or ".repeat(20) + "not 1=1;", 1);
        fine(head + "((((((((1=1) and (1=1)) or not 1=1)))) and ((((1=1)))))) or ((((((((1=1))))))));", 1);
        fine(head + "not not not not not not not not 1=1 and not not not not not not not not 1=1;", 1);
        fine(head + "(((((((not 1=1 and not 1=1)))))));", 1);
        faulty(head + "(((((((not 1=1 and not (1=1)))))));", 3, 35);
        faulty(head + "((((((((1=1)))))))) and (((((((((1=1", 3, 44);
        fine(head + "((((((((1=1)))))))); leave 1 when ((((((((1=1))))))));", 2);
        faulty(head + "((((((((1=1))))))));leave 1 when (((((((((1=1)))))))));", 3, 53);
    }

    private static void longTexts() {
        check.by("9: 400: the longest TEXT");
        String sum = "take 1" + "+1".repeat(196);
        taken(sum + "; ", 197);
        fine(sum + "; ", 1);
        faulty(sum + "+1", 1, 400);
        faulty(sum + ";;", 1, 399);
        NotYet x = new NotYet();
        x.come(0, 0, 0);
        for (int i = 0; i < 15; i++) {
            check.due("long ones, again and again", Check.way(x, 0, sum + ";"), 1);
            check.due("take", x.one(0, 3), 197);
        }
        taken("take 9" + "/1".repeat(196) + ";", 9);
        taken("take 1" + "*1".repeat(196) + ";", 1);
        taken("take 8 when " + "1=1 and ".repeat(47) + "1=1;", 8);
        taken("take 8 when " + "1=2 or ".repeat(53) + "1=1;", 8);
        taken("take 8 when " + "1=2 or ".repeat(53) + "1=2;", 0);
    }

    private static void wrapAround() {
        check.by("3: Ints, which wrap");
        taken("take 9999*9999*9999;", 9999 * 9999 * 9999);
        taken("take 8192*8192*32;", Integer.MIN_VALUE);
        taken("take 8192*8192*32 - 1;", Integer.MAX_VALUE);
        taken("take 8192*8192*32 - 1 + 1;", Integer.MIN_VALUE);
        taken("take 8192*8192*64;", 0);
        taken("take 0 - 8192*8192*32;", Integer.MIN_VALUE);
        taken("take 1 when 8192*8192*32 < 0; take 2;", 1);
        taken("take 1 when 8192*8192*32 - 1 > 0; take 2;", 1);
        taken("take 1 when 8192*8192*32 < 8192*8192*32 - 1; take 2;", 1);
        left("leave 8192*8192*32;", Integer.MIN_VALUE);
    }

    private static void partTowardsNought() {
        check.by("3: / goes towards 0");
        taken("take 7/2;", 3);
        taken("take 0-7/2;", -3);
        taken("take 1-8 + 0/2;", -7);
        // One T that is below 0: what wraps.
        taken("take 8192*8192*32/3;", Integer.MIN_VALUE / 3);
        taken("take 8192*8192*32/9999;", -214769);
        taken("take 8192*8192*32/1;", Integer.MIN_VALUE);
        taken("take 8192*8192*63/9999/9999;", -67108864 / 9999 / 9999);
        taken("take 8192*8192*63/8192/8192/2;", 0);
        taken("take 8192*8192*63/8192/5000;", -1);
        taken("take 8192*8192*63/8192/5000*3;", -3);
    }

    private static void comparisons() {
        check.by("3: C = E (< | = | >) E");
        taken("take 1 when 4 < 5; take 2;", 1);
        taken("take 1 when 5 < 5; take 2;", 2);
        taken("take 1 when 6 < 5; take 2;", 2);
        taken("take 1 when 4 = 5; take 2;", 2);
        taken("take 1 when 5 = 5; take 2;", 1);
        taken("take 1 when 6 = 5; take 2;", 2);
        taken("take 1 when 4 > 5; take 2;", 2);
        taken("take 1 when 5 > 5; take 2;", 2);
        taken("take 1 when 6 > 5; take 2;", 1);
        faulty("take 1 when 5 < = 5;", 1, 16);
        faulty("take 1 when 5 <> 5;", 1, 15);
        faulty("take 1 when 5 == 5;", 1, 15);
        faulty("take 1 when < 5;", 1, 12);
        faulty("take 1 when 5 5;", 1, 14);
        faulty("take 1 when week sort;", 1, 17);
        faulty("take 1 when 5;", 1, 13);
        faulty("take 1 when 5 and 5=5;", 1, 14);
        faulty("take 1 when ();", 1, 13);
        faulty("take 1 when (1=1;", 1, 16);
        faulty("take 1 when 1=1);", 1, 15);
    }

    private static void firstOfItsLines() {
        check.by("3: each E of the first of its lines whose B is so, or that has none");
        taken("take 1; take 2;", 1);
        taken("take 1 when 1=2; take 2; take 3;", 2);
        taken("take 1 when 1=2; take 2 when 1=1; take 3;", 2);
        taken("leave 9; take 1 when 1=2; leave 8; take 2;", 2);
        left("take 9; leave 1 when 1=2; take 8; leave 2; leave 3;", 2);
        left("leave 0 - 1; leave 5;", -1);
        left("leave 0 - 5; leave 5;", -5);
        left("leave 0;", 0);
    }

    private static void withoutALine() {
        check.by("3: without one 0 for take, never for leave; 16: 4 NONE: never");
        taken("leave 5;", 0);
        taken("take 5 when 1=2;", 0);
        taken("take 5 when 1=2; take 6 when 1>1; leave 3;", 0);
        left("take 5;", -1);
        left("leave 5 when 1=2;", -1);
        left("leave 5 when 1=2; take 3; leave 6 when 1<1;", -1);
    }

    private static void waitFromTheLastWeekOn() {
        check.by("3: wait: WAIT behind week (WEEKS and 1) for THE LAST WEEK as it is (0 from that on)");
        NotYet x = new NotYet();
        x.set(0, 0);
        x.set(2, 4);
        x.look(1, 0, 800, 500);
        Check.way(x, 0, "take wait;");
        x.come(0, 0, 0);
        int[] due = {700, 600, 400, 0, 0, 0};
        for (int week = 0; week < due.length; week++) {
            check.due("in week " + week, x.one(0, 3), due[week]);
            x.weeks(1);
        }
        x.set(2, 8);
        check.due("T later", x.one(0, 3), 400);
        x.set(2, 60);
        check.due("T at its last", x.one(0, 3), x.patience(0, 0, 7));
        x.set(2, 7);
        check.due("T is that week", x.one(0, 3), 0);
        x.set(2, 1);
        check.due("T is gone by", x.one(0, 3), 0);
        x.set(2, 60);
        for (int i = 0; i < 4; i++) {
            x.weeks(20);
        }
        check.due("far behind", x.one(0, 3), 0);
        x.weeks(13);
        check.due("behind all WEEKS", x.one(0, 3), 0);
    }

    private static void factsAtTheirEdges() {
        check.by("3: week, waited, sort, mine, best, told");
        NotYet x = new NotYet();
        x.sorts(0, 6);
        x.sorts(1, 6);
        x.look(0, 5, 999, 0);
        x.look(1, 5, 998, 0);
        Check.way(x, 0, "take best; leave mine;");
        Check.way(x, 1, "take sort; leave told;");
        Check.way(x, 2, "take week; leave waited;");
        x.come(0, 5, 0);
        x.come(0, 5, 1);
        x.come(0, 0, 2);
        x.come(1, 0, 0);
        check.due("best is the last", x.one(0, 3), 998);
        check.due("mine", x.one(0, 4), 999);
        check.due("best of the others for her", x.one(3, 3), 999);
        check.due("her own LOOK", x.one(3, 4), 0);
        check.due("sort", x.one(1, 3), 5);
        check.due("not told at first", x.one(1, 4), 0);
        x.set(6, 1);
        check.due("told", x.one(1, 4), 1);
        x.set(6, 0);
        check.due("not told", x.one(1, 4), 0);
        check.due("week", x.one(2, 3), 0);
        check.due("waited", x.one(2, 4), 0);
        for (int i = 0; i < 4; i++) {
            x.weeks(20);
        }
        x.weeks(19);
        check.due("week", x.one(2, 3), 99);
        check.due("waited", x.one(2, 4), x.one(2, 1));
        x.look(1, 5, 0, 0);
        check.due("best of none", x.one(0, 3), 0);
        x.look(1, 0, 7, 0);
        check.due("best is the first", x.one(0, 3), 7);
    }

    /** WAIT is asked in a WEEK itself, not only by one who looks on. */
    private static void waitAsOneMeets() {
        check.by("3: wait: one's WAIT behind week (WEEKS and 1)");
        NotYet x = new NotYet();
        x.set(0, 0);
        x.set(2, 2);
        x.sorts(1, 2);
        x.look(1, 0, 800, 500);
        x.look(1, 1, 399, 0);
        Check.way(x, 0, "take wait;");
        x.come(0, 0, 0);
        x.come(1, 1, 1);
        check.due("399 is less than WAIT", x.weeks(1), 0);
        x.set(2, 1);
        check.due("behind T all is taken", x.weeks(1), 1);
        NotYet y = new NotYet();
        y.set(0, 0);
        y.set(2, 2);
        y.sorts(1, 2);
        y.look(1, 0, 800, 500);
        y.look(1, 1, 400, 0);
        Check.way(y, 0, "take wait;");
        y.come(0, 0, 0);
        y.come(1, 1, 1);
        check.due("400 is as much as WAIT", y.weeks(1), 1);
    }

    private static void joined() {
        check.by("3: B = A {or A}. A = C {and C}. C = not C | ( B ). E = T {(+ | -) T}. T = U {* U | / NUMBER}");
        String[] claims = {"1=2", "1=1"};
        for (int bits = 0; bits < 8; bits++) {
            boolean p = (bits & 1) != 0;
            boolean q = (bits & 2) != 0;
            boolean r = (bits & 4) != 0;
            String a = claims[bits & 1];
            String b = claims[bits >> 1 & 1];
            String c = claims[bits >> 2 & 1];
            so(a + " or " + b + " and " + c, p || q && r);
            so(a + " and " + b + " or " + c, p && q || r);
            so("(" + a + " or " + b + ") and " + c, (p || q) && r);
            so(a + " and (" + b + " or " + c + ")", p && (q || r));
            so("not " + a + " and " + b + " or " + c, !p && q || r);
            so("not (" + a + " and " + b + ") or " + c, !(p && q) || r);
            so("not not " + a + " or not " + b + " and not " + c, p || !q && !r);
            so(a + " or " + b + " or " + c, p || q || r);
            so(a + " and " + b + " and " + c, p && q && r);
        }
        so("not 1 < 2", false);
        so("not 2 > 1", false);
        so("not 2 < 1", true);
        so("not 1 > 2", true);
        so("1 < 2 and 1 = 1", true);
        so("2 > 1 and 1 = 1", true);
        taken("take 9 - 4 - 3;", 2);
        taken("take 9 - 4 + 3;", 8);
        taken("take 9 + 4 * 3 - 2;", 19);
        taken("take 9 / 2 * 2;", 8);
        taken("take 9 * 2 / 4;", 4);
        taken("take 90 / 4 / 4;", 5);
        taken("take 1 - 9 / 2 * 2 - 1;", -8);
    }

    private static void so(String claim, boolean holds) {
        taken("take 1 when " + claim + "; take 2;", holds ? 1 : 2);
    }
}
