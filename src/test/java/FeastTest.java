/** Promises 19 to 25: THE FEAST, PAIRINGS, THE MOST, MENDED and PRICES. */
public final class FeastTest {
    private static final Check check = new Check();

    public static void main(String[] args) {
        feast();
        likes();
        ofSevenMany();
        tenOfFour();
        pairing();
        mended();
        price();
        sums();
        check.close();
    }

    private static void feast() {
        NotYet x = new NotYet();
        check.due("19", x.feast(0), false);
        check.due("19", x.feast(8), false);
        check.due("19", x.feast(-1), false);
        check.due("19 seven", x.feast(7), true);
        check.due("19 seven", x.likes(1, 6, 6, 99), true);
        check.due("19 a wrong one does nothing", x.feast(8), false);
        check.due("19", x.pairing(2, -1), 99);
        x.price(6, 100);
        check.due("19 prices", x.sums(0, 0), 0);
        check.due("19 again", x.feast(7), true);
        check.due("19 likes are 0", x.pairing(2, -1), 0);
        check.due("19 prices are 0", x.sums(0, 0), 1);
        check.due("19 one", x.feast(1), true);
        check.due("19 one", x.holds(), 1);
        check.due("19 one", x.pairing(0, 0), 0);
        check.due("19 one", x.pairing(0, 1), -1);
        x.likes(0, 0, 0, 5);
        x.feast(7);
        check.due("19 gone", x.pairing(0, -1), 0);
    }

    private static void likes() {
        NotYet x = new NotYet();
        check.due("20", x.likes(0, 0, 0, 99), true);
        check.due("20", x.likes(1, 2, 2, 0), true);
        check.due("20", x.likes(-1, 0, 0, 0), false);
        check.due("20", x.likes(2, 0, 0, 0), false);
        check.due("20", x.likes(0, 3, 0, 0), false);
        check.due("20", x.likes(0, -1, 0, 0), false);
        check.due("20", x.likes(0, 0, 3, 0), false);
        check.due("20", x.likes(0, 0, -1, 0), false);
        check.due("20", x.likes(0, 0, 0, 100), false);
        check.due("20", x.likes(0, 0, 0, -1), false);
        check.due("20 a man's", x.pairing(2, -1), 99);
        x.likes(1, 0, 0, 1);
        check.due("20 a woman's", x.pairing(2, -1), 100);
        x.likes(1, 1, 0, 50);
        check.due("20 not added by the man", x.pairing(2, -1), 100);
    }

    /** Each man likes the next woman less, each woman the next man more: every turn of the ring holds. */
    private static void ofSevenMany() {
        for (int n = 1; n <= 7; n++) {
            NotYet x = new NotYet();
            x.feast(n);
            for (int k = 0; k < n; k++) {
                for (int j = 0; j < n; j++) {
                    int turn = Math.floorMod(j - k, n);
                    x.likes(0, k, j, 50 - turn);
                    x.likes(1, j, k, 10 + turn);
                }
            }
            check.due("21 a ring of " + n, x.holds(), n);
            for (int k = 0; k < n; k++) {
                check.due("22 the men's", x.pairing(0, k), k);
                check.due("22 the women's", x.pairing(1, k), (k + n - 1) % n);
                for (int turn = 0; turn < n; turn++) {
                    check.due("22 all in order", x.pairing(10 + turn, k), (k + turn) % n);
                    check.due("22 together", x.pairing(10 + turn, -1), 60 * n);
                }
            }
            check.due("22 no more", x.pairing(10 + n, 0), -1);
            check.due("22 the first of the most", x.pairing(2, n - 1), n - 1);
            check.due("23", x.mended(), 0);
        }
    }

    /** Four men and four women can be paired in at most ten ways that hold, and here they are. */
    private static void tenOfFour() {
        NotYet x = new NotYet();
        x.feast(4);
        int[][] order = {{0, 1, 2, 3}, {1, 0, 3, 2}, {2, 3, 0, 1}, {3, 2, 1, 0}};
        for (int k = 0; k < 4; k++) {
            for (int rank = 0; rank < 4; rank++) {
                x.likes(0, k, order[k][rank], 9 - rank);
                x.likes(1, k, order[3 - k][rank], 9 - rank);
            }
        }
        check.due("21 ten", x.holds(), 10);
        for (int k = 0; k < 4; k++) {
            check.due("22 the men's", x.pairing(0, k), k);
            check.due("22 the women's", x.pairing(1, k), 3 - k);
            check.due("22 the first", x.pairing(10, k), k);
            check.due("22 the last", x.pairing(19, k), 3 - k);
        }
        check.due("22 no more", x.pairing(20, 0), -1);
    }

    private static void pairing() {
        NotYet x = new NotYet();
        check.due("22", x.pairing(-1, 0), -1);
        check.due("22", x.pairing(Integer.MIN_VALUE, 0), -1);
        check.due("22", x.pairing(Integer.MAX_VALUE, 0), -1);
        check.due("22", x.pairing(3, 0), -1);
        check.due("22", x.pairing(9, 0), -1);
        check.due("22", x.pairing(9, -1), -1);
        check.due("22", x.pairing(11, -1), -1);
        check.due("22", x.pairing(0, -2), -1);
        check.due("22", x.pairing(2, 3), -1);
        check.due("22", x.pairing(2, Integer.MAX_VALUE), -1);
        check.due("22 liked alike the least", x.pairing(0, 2), 2);
        x.likes(0, 2, 0, 1);
        x.likes(1, 0, 2, 1);
        check.due("22 now they like one another", x.pairing(0, 2), 0);
        check.due("22 the next", x.pairing(0, 0), 1);
        check.due("22 the next", x.pairing(1, 1), 2);
        check.due("22 the most", x.pairing(2, 2), 0);
        check.due("22 together", x.pairing(10, -1), 2);
        check.due("21", x.holds(), 1);
    }

    private static void mended() {
        NotYet x = new NotYet();
        x.feast(2);
        x.likes(0, 0, 0, 2);
        x.likes(0, 0, 1, 1);
        x.likes(0, 1, 0, 99);
        x.likes(1, 0, 0, 2);
        x.likes(1, 0, 1, 1);
        check.due("21 she likes the first more", x.holds(), 1);
        check.due("22", x.pairing(10, 0), 0);
        check.due("22 what holds", x.pairing(10, -1), 4);
        check.due("22 the most", x.pairing(2, -1), 101);
        check.due("22 the most", x.pairing(2, 0), 1);
        check.due("23", x.mended(), 97);
        x.likes(0, 1, 0, 0);
        check.due("23 none", x.mended(), 0);
    }

    private static void price() {
        NotYet x = new NotYet();
        check.due("24", x.price(0, 0), true);
        check.due("24", x.price(2, 999), true);
        check.due("24", x.price(3, 0), false);
        check.due("24", x.price(-1, 0), false);
        check.due("24", x.price(0, 1000), false);
        check.due("24", x.price(0, -1), false);
        check.due("24 told", x.sums(2, 1), 0);
        check.due("24 does not hold", x.sums(0, 0), 0);
        check.due("24", x.price(0, 999) && x.price(1, 999), true);
        check.due("24 holds", x.sums(0, 0), 1);
        x.feast(3);
        check.due("24 0 for a new one", x.price(0, 1) ? x.sums(0, 1) : 9, 1);
    }

    private static void sums() {
        NotYet x = new NotYet();
        x.feast(3);
        int[] sum = {9, 5, 0, 8, 1, 0, 7, 6, 0};
        for (int i = 0; i < 9; i++) {
            x.likes(i % 2, i % 2 == 0 ? i / 3 : i % 3, i % 2 == 0 ? i % 3 : i / 3, sum[i]);
        }
        check.due("25 the most", x.pairing(2, -1), 15);
        check.due("25 the most", x.pairing(2, 0), 0);
        check.due("25 the most", x.pairing(2, 1), 2);
        check.due("25 prices of 0", x.sums(0, 0), 0);
        check.due("25 k is not asked", x.sums(9, 0), 0);
        check.due("25 wants", x.sums(0, 1), 0);
        check.due("25 wants", x.sums(1, 1), 0);
        check.due("25 wants", x.sums(2, 1), 0);
        check.due("25 least", x.sums(0, 2), 8);
        check.due("25 least", x.sums(1, 2), 4);
        check.due("25 least", x.sums(2, 2), 0);
        check.due("25", x.sums(3, 1), -1);
        check.due("25", x.sums(-1, 2), -1);
        check.due("25", x.sums(3, 2), -1);
        check.due("25", x.sums(0, 3), -1);
        check.due("25", x.sums(0, -1), -1);
        x.price(0, 8);
        x.price(1, 4);
        check.due("25 the least ones hold", x.sums(0, 0), 1);
        check.due("25 of several the least", x.sums(0, 1), 0);
        check.due("25 wants another as great", x.sums(1, 1), 0);
        check.due("25 wants", x.sums(2, 1), 1);
        x.price(0, 7);
        check.due("25 less does not hold", x.sums(0, 0), 0);
        x.price(0, 9);
        check.due("25 more does not hold", x.sums(0, 0), 0);
        x.price(1, 5);
        x.price(2, 1);
        check.due("25 all dearer alike hold", x.sums(0, 0), 1);
        check.due("25 least ones are not those told", x.sums(0, 2), 8);
    }
}
