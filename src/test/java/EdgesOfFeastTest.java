/** The edges that Term 4 and promises 19 to 25 name, sentence by sentence. */
public final class EdgesOfFeastTest {
    private static final int[] FAR = {Integer.MIN_VALUE, -2, 7, 8, 100, Integer.MAX_VALUE};
    private static final Check check = new Check();

    public static void main(String[] args) {
        feastOfOneToSeven();
        threeAtFirst();
        feastBeginsAnew();
        feastRefused();
        likesOneToNinetyNine();
        likesRefused();
        likesOfBothSides();
        likedAlikeByMen();
        likedAlikeByWomen();
        allAlike();
        holdsIfNobodyLikesMore();
        likesNoLessIsNotMore();
        mensAndWomens();
        worstOff();
        allInOrder();
        fullOfPairings();
        pairingNumbers();
        pairingTogether();
        pairingNoneSuch();
        theMostOfSeveralTheFirst();
        theMostGreatest();
        mendedNought();
        mendedMuch();
        priceEdges();
        priceForANewFeast();
        priceRefused();
        wantsOfSeveralTheLeast();
        wantsWhatIsBelowNought();
        pricesHoldIfAsGreat();
        pricesHoldAtNought();
        leastPricesNought();
        leastPricesOfChains();
        leastPricesGreatest();
        leastPricesAreNotTold();
        sumsRefused();
        check.close();
    }

    /** A FEAST in which MEN like by rows of the first and WOMEN by rows of the second. */
    private static NotYet feastOf(int[][] men, int[][] women) {
        NotYet x = new NotYet();
        x.feast(men.length);
        for (int k = 0; k < men.length; k++) {
            for (int j = 0; j < men.length; j++) {
                x.likes(0, k, j, men[k][j]);
                x.likes(1, k, j, women[k][j]);
            }
        }
        return x;
    }

    private static int[][] noughts(int n) {
        return new int[n][n];
    }

    private static void feastOfOneToSeven() {
        check.by("4: MEN 0 .. n - 1 and WOMEN 0 .. n - 1 (n 1 .. 7)");
        for (int n = 1; n <= 7; n++) {
            NotYet x = new NotYet();
            check.due("feast " + n, x.feast(n), true);
            for (int side = 0; side < 2; side++) {
                check.due("the last and the last", x.likes(side, n - 1, n - 1, 1), true);
                check.due("one behind", x.likes(side, n, 0, 1), false);
                check.due("one behind", x.likes(side, 0, n, 1), false);
                check.due("one ahead", x.likes(side, -1, 0, 1), false);
                check.due("one ahead", x.likes(side, 0, -1, 1), false);
            }
            check.due("the last MAN", x.pairing(0, n - 1), n - 1);
            check.due("one behind", x.pairing(0, n), -1);
            check.due("the last WOMAN", x.price(n - 1, 0), true);
            check.due("one behind", x.price(n, 0), false);
            check.due("the last", x.sums(n - 1, 2), 0);
            check.due("one behind", x.sums(n, 2), -1);
            check.due("one behind", x.sums(n, 1), -1);
        }
    }

    private static void threeAtFirst() {
        check.by("4: 3 at first; LIKES 0 at first; 24: PRICE 0 at first");
        NotYet x = new NotYet();
        check.due("the third", x.pairing(0, 2), 2);
        check.due("no fourth", x.pairing(0, 3), -1);
        check.due("no fourth", x.likes(0, 3, 0, 0), false);
        check.due("LIKES", x.pairing(2, -1), 0);
        check.due("PRICES hold", x.sums(0, 0), 1);
        for (int w = 0; w < 3; w++) {
            NotYet y = new NotYet();
            y.price(w, 1);
            check.due("the others have PRICE 0", y.sums(0, 1), w == 0 ? 1 : 0);
        }
    }

    private static void feastBeginsAnew() {
        check.by("19: (all LIKES are 0 then)");
        for (int n = 1; n <= 7; n++) {
            NotYet x = new NotYet();
            x.feast(n);
            for (int k = 0; k < n; k++) {
                x.likes(0, k, n - 1 - k, 99);
                x.likes(1, k, n - 1 - k, 99);
            }
            check.due("told", x.pairing(2, -1), 198 * n);
            check.due("as many again", x.feast(n), true);
            check.due("0", x.pairing(2, -1), 0);
            check.due("0", x.pairing(0, -1), 0);
            check.due("alike: the least", x.pairing(0, n - 1), n - 1);
            x.likes(0, n - 1, n - 1, 99);
            check.due("one couple", x.pairing(2, -1), 99);
            for (int fewer = n; fewer >= 1; fewer--) {
                x.feast(fewer);
                check.due("fewer: 0", x.pairing(2, -1), 0);
                check.due("fewer: 0", x.mended(), 0);
                x.likes(0, fewer - 1, fewer - 1, 9);
                check.due("fewer: 9", x.pairing(2, -1), 9);
            }
            check.due("one", x.holds(), 1);
            x.feast(7);
            check.due("those who went and came", x.pairing(2, -1), 0);
        }
    }

    private static void feastRefused() {
        check.by("19: false if it can't be");
        NotYet x = feastOf(new int[][] {{1, 9}, {9, 1}}, noughts(2));
        x.price(0, 5);
        for (int n : new int[] {Integer.MIN_VALUE, -1, 0, 8, 9, Integer.MAX_VALUE}) {
            check.due("feast " + n, x.feast(n), false);
        }
        check.due("as many", x.pairing(0, 1), 0);
        check.due("no more", x.pairing(0, 2), -1);
        check.due("LIKES as they were", x.pairing(2, -1), 18);
        x.price(1, 5);
        check.due("PRICES as they were", x.sums(0, 0), 1);
        check.due("PRICES as they were", x.sums(1, 1), 0);
    }

    private static void likesOneToNinetyNine() {
        check.by("4: LIKES of each for each of the others 0 .. 99");
        for (int side = 0; side < 2; side++) {
            NotYet x = new NotYet();
            x.feast(1);
            check.due("99", x.likes(side, 0, 0, 99), true);
            check.due("99", x.pairing(2, -1), 99);
            for (int v : new int[] {Integer.MIN_VALUE, -1, 100, Integer.MAX_VALUE}) {
                check.due("likes " + v, x.likes(side, 0, 0, v), false);
            }
            check.due("99 still", x.pairing(2, -1), 99);
            check.due("0", x.likes(side, 0, 0, 0), true);
            check.due("0", x.pairing(2, -1), 0);
        }
    }

    private static void likesRefused() {
        check.by("20: false if one can't be");
        NotYet x = new NotYet();
        for (int v : FAR) {
            check.due("side " + v, x.likes(v, 0, 0, 1), false);
            check.due("k " + v, x.likes(0, v, 0, 1), false);
            check.due("j " + v, x.likes(0, 0, v, 1), false);
            check.due("k " + v, x.likes(1, v, 0, 1), false);
            check.due("j " + v, x.likes(1, 0, v, 1), false);
        }
        check.due("nothing was told", x.pairing(2, -1), 0);
    }

    private static void likesOfBothSides() {
        check.by("20: LIKES of k (side 0 a MAN) for j");
        NotYet x = new NotYet();
        x.likes(0, 0, 2, 30);
        check.due("MAN 0 for WOMAN 2", x.pairing(2, 0), 2);
        check.due("together", x.pairing(2, -1), 30);
        x.likes(1, 0, 2, 50);
        check.due("WOMAN 0 for MAN 2", x.pairing(2, 2), 0);
        check.due("together", x.pairing(2, -1), 80);
    }

    private static void likedAlikeByMen() {
        check.by("4: of two liked alike the least number is liked more (MEN)");
        int[][] women = {{5, 1}, {5, 1}};
        NotYet x = feastOf(new int[][] {{7, 7}, {7, 7}}, women);
        check.due("both WOMEN like MAN 0: he has 0", x.pairing(0, 0), 0);
        check.due("one holds", x.holds(), 1);
        x.likes(0, 0, 1, 8);
        check.due("he likes 1 more", x.pairing(0, 0), 1);
        check.due("one holds", x.holds(), 1);
        x.likes(0, 0, 0, 8);
        check.due("alike again", x.pairing(1, 0), 0);
    }

    private static void likedAlikeByWomen() {
        check.by("4: of two liked alike the least number is liked more (WOMEN)");
        int[][] men = {{5, 1}, {5, 1}};
        NotYet x = feastOf(men, new int[][] {{7, 7}, {7, 7}});
        check.due("both MEN like WOMAN 0: she has 0", x.pairing(1, 0), 0);
        check.due("one holds", x.holds(), 1);
        x.likes(1, 0, 1, 8);
        check.due("she likes 1 more", x.pairing(1, 1), 0);
        check.due("one holds", x.holds(), 1);
        x.likes(1, 0, 0, 8);
        check.due("alike again", x.pairing(0, 0), 0);
    }

    private static void allAlike() {
        check.by("4: of two liked alike the least number is liked more");
        for (int v : new int[] {0, 1, 99}) {
            for (int n = 1; n <= 7; n++) {
                NotYet x = new NotYet();
                x.feast(n);
                for (int k = 0; k < n; k++) {
                    for (int j = 0; j < n; j++) {
                        x.likes(0, k, j, v);
                        x.likes(1, k, j, v);
                    }
                }
                check.due("one holds", x.holds(), 1);
                for (int k = 0; k < n; k++) {
                    for (int which : new int[] {0, 1, 2, 10}) {
                        check.due("pairing " + which, x.pairing(which, k), k);
                    }
                }
                check.due("nothing to mend", x.mended(), 0);
            }
        }
    }

    private static void holdsIfNobodyLikesMore() {
        check.by("4: It HOLDS, if no MAN and no WOMAN like one another more than those they have");
        // Each likes another first: only where both are content, or one of each couple is, it holds.
        NotYet x = feastOf(new int[][] {{9, 8}, {8, 9}}, new int[][] {{8, 9}, {9, 8}});
        check.due("MEN one way, WOMEN the other", x.holds(), 2);
        NotYet y = feastOf(new int[][] {{9, 8}, {8, 9}}, new int[][] {{9, 8}, {8, 9}});
        check.due("all one way", y.holds(), 1);
        check.due("their way", y.pairing(10, 0), 0);
        NotYet z = feastOf(new int[][] {{9, 8}, {9, 8}}, new int[][] {{8, 9}, {0, 0}});
        check.due("she has the one she likes", z.holds(), 1);
        check.due("that is MAN 1", z.pairing(10, 1), 0);
    }

    private static void likesNoLessIsNotMore() {
        check.by("4: like one another more: both");
        NotYet x = feastOf(new int[][] {{9, 0}, {9, 0}}, new int[][] {{5, 5}, {5, 5}});
        check.due("WOMAN 0 likes MAN 0 more, of two alike", x.pairing(0, 0), 0);
        check.due("the other pairing does not hold", x.holds(), 1);
        x.likes(1, 0, 1, 6);
        check.due("now MAN 1", x.pairing(0, 1), 0);
        check.due("and that alone", x.holds(), 1);
    }

    private static void mensAndWomens() {
        check.by("4: THE MEN'S: each MAN has the one he likes most of all that he has in any that holds; THE WOMEN'S likewise");
        for (int n = 1; n <= 7; n++) {
            NotYet x = ring(n);
            for (int k = 0; k < n; k++) {
                check.due("THE MEN'S of " + n, x.pairing(0, k), k);
                check.due("THE WOMEN'S of " + n, x.pairing(1, k), (k + n - 1) % n);
            }
        }
        // MEN like the turned one, WOMEN the straight one: THE MEN'S is the last in order.
        NotYet turned = feastOf(new int[][] {{8, 9}, {9, 8}}, new int[][] {{9, 8}, {8, 9}});
        check.due("two hold", turned.holds(), 2);
        check.due("THE MEN'S is the last", turned.pairing(0, 0), 1);
        check.due("THE MEN'S is the last", turned.pairing(0, 1), 0);
        check.due("THE WOMEN'S is the first", turned.pairing(1, 0), 0);
        check.due("THE WOMEN'S is the first", turned.pairing(1, 1), 1);
        NotYet one = feastOf(new int[][] {{9, 8}, {8, 9}}, new int[][] {{9, 8}, {8, 9}});
        for (int k = 0; k < 2; k++) {
            check.due("one alone is both", one.pairing(0, k), one.pairing(1, k));
        }
    }

    /** MAN k likes WOMAN k most, then the next ones round; WOMAN j likes MAN j least: n PAIRINGS hold. */
    private static NotYet ring(int n) {
        NotYet x = new NotYet();
        x.feast(n);
        for (int k = 0; k < n; k++) {
            for (int turn = 0; turn < n; turn++) {
                x.likes(0, k, (k + turn) % n, 99 - turn);
                x.likes(1, (k + turn) % n, k, turn);
            }
        }
        return x;
    }

    /** One alone holds, in which a SIDE has its last ones or those ahead of them, behind a FEAST where the last one was best. */
    private static void worstOff() {
        check.by("4: THE MEN'S, THE WOMEN'S: the one he likes most of all that he has in any that holds");
        int[][] worse = {{0, 1, 2, 3, 4, 5, 6}, {1, 2, 3, 4, 5, 0, 6}, {2, 3, 4, 5, 0, 1, 6}, {3, 4, 5, 0, 1, 2, 6},
            {4, 5, 0, 1, 2, 3, 6}, {5, 0, 1, 2, 3, 4, 6}, {0, 1, 2, 3, 4, 5, 6}};
        int[][] better = {{1, 0, 3, 4, 5, 2, 6}, {2, 0, 3, 5, 4, 6, 1}, {3, 1, 5, 2, 6, 0, 4}, {4, 1, 3, 0, 5, 2, 6},
            {5, 0, 1, 6, 2, 3, 4}, {6, 0, 5, 1, 4, 2, 3}, {0, 2, 6, 5, 3, 1, 4}};
        for (int side = 0; side < 2; side++) {
            NotYet x = ring(7);
            for (int k = 0; k < 7; k++) {
                for (int j = 0; j < 7; j++) {
                    x.likes(side, k, (k + j) % 7, side == 0 ? j : 99 - j);
                    x.likes(1 - side, (k + j) % 7, k, side == 0 ? 99 - j : j);
                }
            }
            check.due("seven hold", x.holds(), 7);
            for (int k = 0; k < 7; k++) {
                for (int rank = 0; rank < 7; rank++) {
                    x.likes(side, k, worse[k][rank], 90 - rank);
                    x.likes(1 - side, k, better[k][rank], 90 - rank);
                }
            }
            check.due("one holds", x.holds(), 1);
            for (int k = 0; k < 7; k++) {
                int due = side == 0 ? (k + 6) % 7 : (k + 1) % 7;
                check.due("THE MEN'S, MAN " + k, x.pairing(0, k), due);
                check.due("THE WOMEN'S, MAN " + k, x.pairing(1, k), due);
            }
        }
    }

    private static void allInOrder() {
        check.by("4: ALL that hold, in order (by the WOMEN of MEN 0, 1, ..)");
        // MEN of two apart like their own WOMEN, who like the other one: each two turn for themselves.
        int[][] men = {{9, 8, 0, 0}, {8, 9, 0, 0}, {0, 0, 9, 8}, {0, 0, 8, 9}};
        int[][] women = {{8, 9, 0, 0}, {9, 8, 0, 0}, {0, 0, 8, 9}, {0, 0, 9, 8}};
        NotYet x = feastOf(men, women);
        int[][] due = {{0, 1, 2, 3}, {0, 1, 3, 2}, {1, 0, 2, 3}, {1, 0, 3, 2}};
        check.due("four", x.holds(), 4);
        for (int i = 0; i < 4; i++) {
            for (int k = 0; k < 4; k++) {
                check.due("number " + i + " MAN " + k, x.pairing(10 + i, k), due[i][k]);
            }
        }
        check.due("no fifth", x.pairing(14, 0), -1);
    }

    private static void fullOfPairings() {
        check.by("21: How many PAIRINGS hold");
        int[][] men = new int[7][7];
        int[][] women = new int[7][7];
        for (int k = 0; k < 6; k++) {
            men[k][k] = 9;
            men[k][k ^ 1] = 8;
            women[k][k ^ 1] = 9;
            women[k][k] = 8;
        }
        men[6][6] = 9;
        women[6][6] = 9;
        NotYet x = feastOf(men, women);
        check.due("three times two ways", x.holds(), 8);
        check.due("the last one", x.pairing(17, 0), 1);
        check.due("the last one", x.pairing(17, 6), 6);
        check.due("no ninth", x.pairing(18, 0), -1);
        int[][] order = {{0, 1, 2, 3}, {1, 0, 3, 2}, {2, 3, 0, 1}, {3, 2, 1, 0}};
        int[][] men8 = new int[7][7];
        int[][] women8 = new int[7][7];
        for (int k = 0; k < 4; k++) {
            for (int rank = 0; rank < 4; rank++) {
                men8[k][order[k][rank]] = 90 - rank;
                women8[k][order[3 - k][rank]] = 90 - rank;
            }
        }
        men8[4][4] = 9;
        men8[4][5] = 8;
        men8[5][5] = 9;
        men8[5][4] = 8;
        women8[4][5] = 9;
        women8[4][4] = 8;
        women8[5][4] = 9;
        women8[5][5] = 8;
        men8[6][6] = 9;
        women8[6][6] = 9;
        NotYet y = feastOf(men8, women8);
        check.due("ten times two", y.holds(), 20);
        check.due("the last one", y.pairing(29, 0), 3);
        check.due("none behind", y.pairing(30, 0), -1);
        y.feast(2);
        check.due("one again", y.holds(), 1);
        check.due("none behind", y.pairing(11, 0), -1);
    }

    private static void pairingNumbers() {
        check.by("22: number which - 10 of ALL that hold (10 and more)");
        NotYet x = ring(5);
        for (int i = 0; i < 5; i++) {
            for (int k = 0; k < 5; k++) {
                check.due("which " + (10 + i), x.pairing(10 + i, k), (k + i) % 5);
            }
        }
        for (int which = 3; which < 10; which++) {
            check.due("which " + which, x.pairing(which, 0), -1);
            check.due("which " + which, x.pairing(which, -1), -1);
        }
        check.due("which 15", x.pairing(15, 0), -1);
        check.due("which 15", x.pairing(15, -1), -1);
    }

    private static void pairingTogether() {
        check.by("22: k NONE: LIKES of all together");
        NotYet x = feastOf(new int[][] {{9, 7}, {6, 5}}, new int[][] {{1, 4}, {3, 0}});
        // WOMAN 0 likes MAN 1 more, WOMAN 1 MAN 0; MEN both like WOMAN 0 more.
        check.due("one holds", x.holds(), 1);
        check.due("THE MEN'S", x.pairing(0, -1), 7 + 6 + 4 + 3);
        check.due("THE WOMEN'S", x.pairing(1, -1), 20);
        check.due("THE MOST", x.pairing(2, -1), 20);
        check.due("the first that holds", x.pairing(10, -1), 20);
        NotYet y = ring(7);
        check.due("each has 99 and 0", y.pairing(0, -1), 7 * 99);
        check.due("each has 93 and 6", y.pairing(1, -1), 7 * 99);
    }

    private static void pairingNoneSuch() {
        check.by("22: NONE if there is none such");
        NotYet x = new NotYet();
        for (int k = -1; k < 3; k++) {
            for (int which : new int[] {Integer.MIN_VALUE, -10, -1, 3, 9, 11, 12, Integer.MAX_VALUE}) {
                check.due("which " + which, x.pairing(which, k), -1);
            }
        }
        for (int which : new int[] {0, 1, 2, 10}) {
            for (int k : new int[] {Integer.MIN_VALUE, -2, 3, 7, Integer.MAX_VALUE}) {
                check.due("which " + which + " MAN " + k, x.pairing(which, k), -1);
            }
            check.due("the last MAN", x.pairing(which, 2), 2);
        }
    }

    private static void theMostOfSeveralTheFirst() {
        check.by("4: THE MOST: with the greatest LIKES of all together; of several the first");
        int[][] rows = {{0, 5, 5}, {5, 0, 5}, {5, 5, 0}};
        NotYet x = feastOf(rows, noughts(3));
        check.due("15", x.pairing(2, -1), 15);
        int[] due = {1, 2, 0};
        for (int k = 0; k < 3; k++) {
            check.due("the first of two", x.pairing(2, k), due[k]);
        }
        NotYet y = feastOf(noughts(3), rows);
        for (int k = 0; k < 3; k++) {
            check.due("by WOMEN's LIKES too", y.pairing(2, k), due[k]);
        }
        x.likes(1, 2, 0, 1);
        int[] other = {2, 0, 1};
        for (int k = 0; k < 3; k++) {
            check.due("one more", x.pairing(2, k), other[k]);
        }
    }

    private static void theMostGreatest() {
        check.by("4: THE MOST: that PAIRING (of all) with the greatest LIKES of all together");
        for (int n = 1; n <= 7; n++) {
            int[][] all = new int[n][n];
            for (int k = 0; k < n; k++) {
                for (int j = 0; j < n; j++) {
                    all[k][j] = k + j == n - 1 ? 99 : 98;
                }
            }
            NotYet x = feastOf(all, all);
            check.due("198 each", x.pairing(2, -1), 198 * n);
            for (int k = 0; k < n; k++) {
                check.due("MAN " + k, x.pairing(2, k), n - 1 - k);
            }
        }
    }

    private static void mendedNought() {
        check.by("4, 23: MENDED: THE MOST less the greatest LIKES of all together in one that holds: 0");
        check.due("a new one", new NotYet().mended(), 0);
        for (int n = 1; n <= 7; n++) {
            check.due("a ring of " + n, ring(n).mended(), 0);
        }
        // Two hold, of which one alone is THE MOST.
        NotYet x = feastOf(new int[][] {{9, 8}, {8, 9}}, new int[][] {{8, 60}, {60, 8}});
        check.due("two hold", x.holds(), 2);
        check.due("the greatest of those that hold", x.mended(), 0);
        check.due("THE MEN'S is not that", x.pairing(0, -1), 34);
    }

    private static void mendedMuch() {
        check.by("4, 23: MENDED");
        // WOMAN 0 and MAN 0 like one another by little, but all that is less; MAN 1 likes her by 99.
        NotYet x = feastOf(new int[][] {{1, 0}, {99, 0}}, new int[][] {{0, 0}, {99, 98}});
        check.due("one holds", x.holds(), 1);
        check.due("what holds", x.pairing(10, -1), 1 + 98);
        check.due("THE MOST", x.pairing(2, -1), 198);
        check.due("99", x.mended(), 99);
        x.likes(1, 0, 1, 1);
        check.due("now she likes him", x.mended(), 0);
        x.likes(1, 0, 1, 0);
        check.due("no more", x.mended(), 99);
        x.likes(1, 1, 1, 0);
        check.due("what holds is less", x.pairing(10, -1), 1);
        check.due("197", x.mended(), 197);
    }

    private static void priceEdges() {
        check.by("24: PRICE of a WOMAN 0 .. 999");
        NotYet x = feastOf(new int[][] {{99, 0}, {0, 0}}, new int[][] {{99, 0}, {0, 0}});
        check.due("999", x.price(1, 999), true);
        check.due("wants 0", x.sums(1, 1), 0);
        check.due("999 for both", x.price(0, 999), true);
        check.due("198 more", x.sums(0, 1), 0);
        x.price(1, 801);
        check.due("as great: the least", x.sums(0, 1), 0);
        x.price(1, 800);
        check.due("one less", x.sums(0, 1), 1);
        check.due("0", x.price(0, 0), true);
        check.due("wants 0", x.sums(1, 1), 0);
    }

    private static void priceForANewFeast() {
        check.by("24: (0 at first, and for a new FEAST)");
        for (int n = 1; n <= 7; n++) {
            NotYet x = new NotYet();
            x.feast(n);
            x.price(n - 1, 999);
            x.price(0, 999);
            x.feast(n);
            check.due("PRICES hold", x.sums(0, 0), 1);
            check.due("wants the least", x.sums(0, 1), 0);
            x.price(n - 1, 5);
            x.feast(1);
            x.feast(n);
            check.due("one who went and came", x.sums(0, 0), 1);
        }
    }

    private static void priceRefused() {
        check.by("24: false if one can't be");
        NotYet x = new NotYet();
        x.price(0, 7);
        x.price(1, 7);
        x.price(2, 7);
        for (int v : new int[] {Integer.MIN_VALUE, -1, 1000, Integer.MAX_VALUE}) {
            for (int w = 0; w < 3; w++) {
                check.due("price " + v, x.price(w, v), false);
            }
        }
        for (int w : new int[] {Integer.MIN_VALUE, -1, 3, 6, 7, Integer.MAX_VALUE}) {
            check.due("WOMAN " + w, x.price(w, 1), false);
        }
        check.due("all alike still", x.sums(0, 0), 1);
        x.feast(4);
        check.due("the fourth was told nothing", x.sums(0, 0), 1);
    }

    private static void wantsOfSeveralTheLeast() {
        check.by("4: a MAN wants her with the greatest (sum less PRICE; of several the least)");
        for (int n = 1; n <= 7; n++) {
            NotYet x = new NotYet();
            x.feast(n);
            check.due("all alike", x.sums(n - 1, 1), 0);
            for (int w = 0; w < n; w++) {
                check.due("wants the first without a PRICE", x.sums(0, 1), w);
                x.price(w, 1);
            }
            check.due("all alike again", x.sums(n - 1, 1), 0);
        }
        NotYet x = feastOf(new int[][] {{5, 3, 0}, {0, 0, 0}, {0, 0, 0}}, new int[][] {{0, 0, 0}, {1, 0, 0}, {4, 0, 0}});
        check.due("5, 4 and 4", x.sums(0, 1), 0);
        x.price(0, 1);
        check.due("4, 4 and 4", x.sums(0, 1), 0);
        x.price(0, 2);
        check.due("3, 4 and 4", x.sums(0, 1), 1);
        x.price(1, 1);
        check.due("3, 3 and 4", x.sums(0, 1), 2);
    }

    private static void wantsWhatIsBelowNought() {
        check.by("4: her with the greatest (sum less PRICE)");
        NotYet x = new NotYet();
        x.price(0, 999);
        x.price(1, 998);
        x.price(2, 999);
        check.due("-998", x.sums(0, 1), 1);
        x.feast(1);
        x.price(0, 999);
        check.due("the one there is", x.sums(0, 1), 0);
        check.due("holds", x.sums(0, 0), 1);
    }

    private static void pricesHoldIfAsGreat() {
        check.by("4: PRICES HOLD, if THE MOST gives each MAN one that is as great to him");
        NotYet x = feastOf(new int[][] {{9, 5}, {7, 6}}, noughts(2));
        check.due("THE MOST", x.pairing(2, 0), 0);
        check.due("MAN 1 wants 0 by 1", x.sums(0, 0), 0);
        x.price(0, 1);
        check.due("as great, though he wants 0", x.sums(0, 0), 1);
        check.due("of several the least", x.sums(1, 1), 0);
        x.price(0, 4);
        check.due("as great for MAN 0", x.sums(0, 0), 1);
        x.price(0, 5);
        check.due("too dear for MAN 0", x.sums(0, 0), 0);
        x.price(1, 4);
        check.due("both dearer", x.sums(0, 0), 1);
    }

    private static void pricesHoldAtNought() {
        check.by("25: 1 if PRICES HOLD, else 0");
        for (int n = 1; n <= 7; n++) {
            NotYet x = ring(n);
            check.due("all couples alike", x.sums(0, 0), 1);
            x.price(n - 1, 1);
            check.due("one dearer", x.sums(0, 0), n == 1 ? 1 : 0);
        }
    }

    private static void leastPricesNought() {
        check.by("4: LEAST PRICES: those 0 at least");
        NotYet x = feastOf(new int[][] {{9, 0}, {0, 9}}, noughts(2));
        check.due("nobody wants another", x.sums(0, 2), 0);
        check.due("nobody wants another", x.sums(1, 2), 0);
        NotYet y = feastOf(new int[][] {{9, 5}, {7, 6}}, noughts(2));
        check.due("1 more than his own", y.sums(0, 2), 1);
        check.due("never below 0", y.sums(1, 2), 0);
        NotYet z = new NotYet();
        z.feast(1);
        z.likes(0, 0, 0, 99);
        check.due("one alone", z.sums(0, 2), 0);
    }

    private static void leastPricesOfChains() {
        check.by("4: LEAST PRICES: that hold and of which each is least");
        // Each MAN likes the WOMAN ahead by 3 more than his own: PRICES fall by 3 from the first to the last.
        for (int n = 2; n <= 7; n++) {
            int[][] men = new int[n][n];
            for (int k = 0; k < n; k++) {
                men[k][k] = 50;
                if (k > 0) {
                    men[k][k - 1] = 53;
                }
            }
            NotYet x = feastOf(men, noughts(n));
            for (int w = 0; w < n; w++) {
                check.due("of " + n + " WOMAN " + w, x.sums(w, 2), 3 * (n - 1 - w));
                x.price(w, 3 * (n - 1 - w));
            }
            check.due("they hold", x.sums(0, 0), 1);
            // And with the MEN the other way round, who are asked in the other order.
            int[][] turned = new int[n][n];
            for (int k = 0; k < n; k++) {
                turned[k][k] = 50;
                if (k < n - 1) {
                    turned[k][k + 1] = 53;
                }
            }
            NotYet y = feastOf(turned, noughts(n));
            for (int w = 0; w < n; w++) {
                check.due("of " + n + " WOMAN " + w, y.sums(w, 2), 3 * w);
            }
        }
    }

    private static void leastPricesGreatest() {
        check.by("4: THE MOST can be held by PRICES always");
        NotYet x = feastOf(new int[][] {{99, 0}, {99, 0}}, new int[][] {{99, 99}, {0, 0}});
        check.due("THE MOST", x.pairing(2, 0), 0);
        check.due("198", x.sums(0, 2), 198);
        check.due("0", x.sums(1, 2), 0);
        check.due("not at 0", x.sums(0, 0), 0);
        x.price(0, 197);
        check.due("not at 197", x.sums(0, 0), 0);
        x.price(0, 198);
        check.due("at 198", x.sums(0, 0), 1);
        x.price(0, 199);
        check.due("not at 199", x.sums(0, 0), 0);
        x.price(1, 1);
        check.due("but with 1", x.sums(0, 0), 1);
    }

    private static void leastPricesAreNotTold() {
        check.by("25: 2 LEAST PRICE of WOMAN k");
        NotYet x = feastOf(new int[][] {{9, 5}, {7, 6}}, noughts(2));
        x.price(0, 0);
        x.price(1, 999);
        check.due("whatever is told", x.sums(0, 2), 1);
        check.due("whatever is told", x.sums(1, 2), 0);
        check.due("nor is it told then", x.sums(0, 0), 0);
        x.likes(0, 1, 0, 8);
        check.due("with new LIKES", x.sums(0, 2), 2);
        x.likes(0, 1, 0, 6);
        check.due("with lesser LIKES", x.sums(0, 2), 0);
    }

    private static void sumsRefused() {
        check.by("25: NONE if one can't be, or another what");
        NotYet x = new NotYet();
        for (int k : new int[] {Integer.MIN_VALUE, -1, 3, 6, 7, Integer.MAX_VALUE}) {
            check.due("MAN " + k, x.sums(k, 1), -1);
            check.due("WOMAN " + k, x.sums(k, 2), -1);
        }
        for (int what : new int[] {Integer.MIN_VALUE, -1, 3, 4, Integer.MAX_VALUE}) {
            for (int k = 0; k < 3; k++) {
                check.due("what " + what, x.sums(k, what), -1);
            }
        }
        check.due("the last", x.sums(2, 1), 0);
        check.due("the last", x.sums(2, 2), 0);
    }
}
