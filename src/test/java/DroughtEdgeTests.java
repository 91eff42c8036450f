/** Boundary cases of promises 21 to 25: droughts, years, duels kept, counts. A sentence to each method. */
public final class DroughtEdgeTests {
    private static final int BAD = -1, NO = -2, FULL = -3, NONE = -4;

    /** A BOX and a PRIVET 5 high, the strip 10 long, sun 5: P 0 is shaded once a month was not dry. */
    private static final String CHANCE = "l10;h0,3,5,9;h1,0,5,9;r1;";
    private static final String LOST = "l1;h0,3,0,9;h1,1,20,9;r1;";

    public static void main(String[] args) {
        droughtNumbers();
        droughtOfNoMonths();
        droughtNeverAndAlways();
        droughtInLowestTerms();
        droughtWhateverIsTold();
        droughtOverTheYear();
        droughtWhenLost();
        yearNumbers();
        yearOfOneToForty();
        yearByTheLargestDraws();
        yearFewerIfLost();
        yearOverTheYear();
        yearWhenLost();
        keepTwoAtMost();
        keepIsNotUndone();
        backToNothing();
        backLeavesWhatIsSeenAndTheText();
        backThenNothingIsUndone();
        backOverALoss();
        backOverTheYear();
        countNumbers();
        countsAtTheirMost();
        countsAtTheirLeast();
        Check.end("DroughtEdgeTests");
    }

    private static HedgeDuel lost() {
        HedgeDuel duel = Check.laid(LOST);
        duel.act(0, 0);
        return duel;
    }

    private static void chance(String what, HedgeDuel duel, int p, int n, int x, int above, int below) {
        Check.is(what + ", drought " + p + " " + n + " " + x + ", above", duel.drought(p, n, x, 0), above);
        Check.is(what + ", drought " + p + " " + n + " " + x + ", below", duel.drought(p, n, x, 1), below);
    }

    /** 'n (0 to 6) MONTHS', 'x (0 to 10) of ten', 'part = 0, 1', 'BAD'. */
    private static void droughtNumbers() {
        HedgeDuel duel = Check.laid(Check.CALM);
        for (int p = -2; p <= 3; p++) {
            for (int n = -2; n <= 9; n++) {
                for (int x = -2; x <= 13; x++) {
                    for (int part = -2; part <= 3; part++) {
                        boolean good = p >= 0 && p <= 1 && n >= 0 && n <= 6 && x >= 0 && x <= 10 && part >= 0 && part <= 1;
                        Check.is("drought " + p + " " + n + " " + x + " " + part, duel.drought(p, n, x, part),
                            good ? part : BAD);
                    }
                }
            }
        }
    }

    private static void droughtOfNoMonths() {
        for (int x = 0; x <= 10; x++) {
            chance("none", Check.laid(CHANCE), 0, 0, x, 0, 1);
            chance("lost", lost(), 0, 0, x, 1, 1);
            chance("won", lost(), 1, 0, x, 0, 1);
        }
    }

    /** 'by x (0 to 10) of ten': by 0 never dry, by 10 always. */
    private static void droughtNeverAndAlways() {
        HedgeDuel duel = Check.laid(CHANCE);
        for (int n = 1; n <= 6; n++) {
            chance("never dry", duel, 0, n, 0, 1, 1);
            chance("always dry", duel, 0, n, 10, 0, 1);
            chance("he can not lose", duel, 1, n, 5, 0, 1);
        }
        HedgeDuel six = Check.laid("l10;h0,3,0,9;h1,0,5,9;r6;");
        chance("six on end, at five", six, 0, 5, 0, 0, 1);
        chance("six on end, at six", six, 0, 6, 0, 1, 1);
    }

    /** 'the chance that P has LOST behind them, in lowest terms': all but that all are dry. */
    private static void droughtInLowestTerms() {
        HedgeDuel duel = Check.laid(CHANCE);
        int[][] ofOne = {{1, 1}, {9, 10}, {4, 5}, {7, 10}, {3, 5}, {1, 2}, {2, 5}, {3, 10}, {1, 5}, {1, 10}, {0, 1}};
        int[][] ofSix = {{1, 1}, {999999, 1000000}, {15624, 15625}, {999271, 1000000}, {15561, 15625}, {63, 64},
            {14896, 15625}, {882351, 1000000}, {11529, 15625}, {468559, 1000000}, {0, 1}};
        for (int x = 0; x <= 10; x++) {
            chance("one", duel, 0, 1, x, ofOne[x][0], ofOne[x][1]);
            chance("six", duel, 0, 6, x, ofSix[x][0], ofSix[x][1]);
        }
    }

    /** 'whatever is told'. */
    private static void droughtWhateverIsTold() {
        HedgeDuel duel = Check.laid(CHANCE + Check.ALL_DRY);
        for (int n = 1; n <= 6; n++) {
            Check.is("told dry, behind " + n, duel.behind(n, 2), NONE);
            chance("told dry", duel, 0, n, 0, 1, 1);
        }
        HedgeDuel other = Check.laid(CHANCE);
        Check.is("told not dry", other.behind(6, 2), 0);
        chance("told not dry", other, 0, 6, 10, 0, 1);
    }

    /** A BAY and a BOX at its bound, both 10: by frost P 0 loses, else P 1; told dry, so that months can go by. */
    private static void droughtOverTheYear() {
        for (int m = 0; m < 30; m++) {
            HedgeDuel duel = Check.laid("l5;r1;h0,2,10,0;h1,3,10,0;" + Check.ALL_DRY);
            for (int i = 0; i < m; i++) {
                duel.pass(1);
            }
            boolean frost = m % 12 <= 1 || m % 12 == 11;
            chance("month " + m, duel, frost ? 0 : 1, 1, 3, 7, 10);
            chance("month " + m, duel, frost ? 1 : 0, 1, 3, 0, 1);
        }
        // shaded three months on end he is if the first of them, month 11, was not dry, whatever the others are
        HedgeDuel three = Check.laid("l5;r3;h0,2,10,0;h1,3,10,0;" + Check.ALL_DRY);
        three.pass(11);
        chance("months 11 to 1", three, 0, 3, 4, 3, 5);
        chance("months 11 and 0", three, 0, 2, 4, 0, 1);
    }

    private static void droughtWhenLost() {
        HedgeDuel duel = lost();
        for (int n = 0; n <= 6; n++) {
            for (int x = 0; x <= 10; x++) {
                chance("he has lost", duel, 0, n, x, 1, 1);
                chance("the other one never will", duel, 1, n, x, 0, 1);
            }
        }
        Check.is("lost, drought of 7", duel.drought(0, 7, 5, 0), BAD);
        Check.is("lost, x 11", duel.drought(0, 1, 11, 0), BAD);
        Check.is("lost, part 2", duel.drought(0, 1, 1, 2), BAD);
    }

    /** 'z (0 to 9999) of n (1 to 40) MONTHS', 'what = 0, 1, 2', 'BAD'. */
    private static void yearNumbers() {
        HedgeDuel duel = Check.laid(Check.CALM + Check.ALL_DRY + "h0,3,0,0;h1,3,0,0;");
        int[] draws = {-2, -1, 0, 1, 9998, 9999, 10000, 10001};
        for (int z : draws) {
            for (int n = -2; n <= 43; n++) {
                for (int what = -2; what <= 4; what++) {
                    boolean good = z >= 0 && z <= 9999 && n >= 1 && n <= 40 && what >= 0 && what <= 2;
                    Check.is("year " + z + " " + n + " " + what, duel.year(z, n, what), !good ? BAD : what == 2 ? NONE : 0);
                }
            }
        }
    }

    /** The draws once more, by steps that stay far below what an int holds. */
    private static int draw(int z, int k) {
        int x = (7919 % 65521 * z % 65521 + 6151 * k % 65521 + 1) % 65521;
        int square = 0;
        for (int bit = 16; bit >= 0; bit--) {
            square = square * 2 % 65521;
            square = (x >> bit & 1) == 1 ? (square + x) % 65521 : square;
        }
        return square / 2;
    }

    private static void acted(String text, int z, int n) {
        HedgeDuel asked = Check.laid(text);
        HedgeDuel acting = Check.laid(text);
        for (int k = 0; k < n; k++) {
            int draw = draw(z, k);
            acting.act(draw % 5, draw / 8 % 5);
        }
        String what = "year " + z + " of " + n + " in " + text;
        Check.is(what + ", P 0's", asked.year(z, n, 0), acting.hedge(0, 1));
        Check.is(what + ", P 1's", asked.year(z, n, 1), acting.hedge(1, 1));
        Check.is(what + ", who has lost", asked.year(z, n, 2), acting.count(3));
        Check.is(what + ", nothing has gone by", asked.count(1), 0);
    }

    /** 'in the k-th (0 first)'. */
    private static void yearOfOneToForty() {
        Check.is("the draw by 0, month 0", draw(0, 0), 0);
        Check.is("the draw by 0, month 1", draw(0, 1), 20743);
        for (int n = 1; n <= 40; n++) {
            acted(Check.CALM + "h0,1,5,30;h1,4,5,30;w20;d3;", 0, n);
            acted(Check.CALM + "h0,2,9,99;h1,0,5,99;w99;d3;", 77, n);
        }
    }

    private static void yearByTheLargestDraws() {
        for (int z = 9999; z > 9000; z -= 37) {
            acted(Check.CALM + "h0,1,5,99;h1,4,5,99;w99;", z, 40);
            acted("l20;r6;h0,1,5,99;h1,4,5,99;w9;", z, 40);
        }
        acted(Check.CALM + "h0,1,5,99;h1,4,5,99;w99;", 9999, 1);
    }

    /** '(fewer, if one has LOST)'. */
    private static void yearFewerIfLost() {
        HedgeDuel duel = Check.laid(LOST);
        for (int n = 1; n <= 40; n++) {
            Check.is("P 0's behind " + n, duel.year(0, n, 0), 1);
            Check.is("P 1's behind " + n, duel.year(0, n, 1), 21);
            Check.is("lost behind " + n, duel.year(0, n, 2), 0);
            acted("l9;r3;h0,1,5,30;h1,4,5,30;", 5, n);
        }
    }

    /** By 0 both do nothing, then P 0 waters, P 1 dungs: in month 11, then in month 0, which is dry. */
    private static void yearOverTheYear() {
        HedgeDuel duel = Check.laid(Check.CALM + "d0;h0,1,5,9;h1,1,5,9;");
        duel.pass(11);
        Check.is("month 11, P 0's", duel.year(0, 1, 0), 16);
        Check.is("month 11, P 1's", duel.year(0, 1, 1), 16);
        Check.is("month 0, watered", duel.year(0, 2, 0), 18);
        Check.is("month 0, dunged", duel.year(0, 2, 1), 16);
    }

    private static void yearWhenLost() {
        HedgeDuel duel = lost();
        for (int n = 1; n <= 40; n++) {
            Check.is("lost, P 0's of " + n, duel.year(9999, n, 0), 1);
            Check.is("lost, P 1's of " + n, duel.year(9999, n, 1), 21);
            Check.is("lost, who of " + n, duel.year(9999, n, 2), 0);
        }
        Check.is("lost, z 10000", duel.year(10000, 1, 0), BAD);
        Check.is("lost, n 0", duel.year(0, 0, 0), BAD);
        Check.is("lost, n 41", duel.year(0, 41, 0), BAD);
        Check.is("lost, what 3", duel.year(0, 1, 3), BAD);
    }

    /** '2 at most', 'FULL'; the third one does not drive out another. */
    private static void keepTwoAtMost() {
        HedgeDuel duel = Check.laid(Check.CALM + "h0,1,5,9;");
        Check.is("one", duel.keep(), 1);
        duel.act(0, 0);
        Check.is("two", duel.keep(), 2);
        for (int i = 0; i < 3; i++) {
            duel.act(0, 0);
            Check.is("three", duel.keep(), FULL);
            Check.is("two still", duel.count(7), 2);
        }
        Check.is("the second", duel.back(), 1);
        Check.is("one month", duel.count(1), 1);
        duel.pass(4);
        Check.is("kept in its place", duel.keep(), 2);
        Check.is("full again", duel.keep(), FULL);
        Check.is("the new second", duel.back(), 1);
        Check.is("five months", duel.count(1), 5);
        Check.is("the first", duel.back(), 0);
        Check.is("no month", duel.count(1), 0);
        Check.is("no more", duel.back(), NO);
        Check.is("one anew", duel.keep(), 1);
    }

    private static void keepIsNotUndone() {
        HedgeDuel duel = Check.laid(Check.CALM);
        duel.keep();
        Check.is("nothing to undo", duel.undo(), NO);
        duel.act(0, 0);
        duel.keep();
        Check.is("the month", duel.undo(), 0);
        Check.is("both are kept", duel.count(7), 2);
        Check.is("as kept", duel.back(), 1);
        Check.is("one month", duel.count(1), 1);
    }

    /** 'NO': nothing kept, none left, laid anew. */
    private static void backToNothing() {
        HedgeDuel duel = new HedgeDuel();
        duel.act(2, 3);
        String before = Check.all(duel);
        Check.is("nothing kept", duel.back(), NO);
        Check.is("nothing changes", Check.all(duel).equals(before) ? 1 : 0, 1);
        Check.is("it can still be undone", duel.undo(), 0);
        duel.keep();
        Check.is("one", duel.back(), 0);
        Check.is("none left", duel.back(), NO);
        duel.keep();
        duel.keep();
        Check.put(duel, "w1;");
        duel.lay();
        Check.is("laid anew", duel.back(), NO);
    }

    /** 'but what is SEEN and THE TEXT (these stay by back() ..)'. */
    private static void backLeavesWhatIsSeenAndTheText() {
        HedgeDuel duel = Check.laid(Check.CALM + "h0,1,5,9;");
        int letters = duel.count(8);
        duel.see(0, 1, 9);
        duel.keep();
        duel.forget();
        duel.see(0, 1, 6);
        duel.see(0, 2, 7);
        Check.put(duel, "l4");
        duel.pass(3);
        Check.is("back", duel.back(), 0);
        Check.is("two are seen", duel.count(5), 2);
        Check.is("the text is longer", duel.count(8), letters + 2);
        Check.is("its fault too", duel.fault(), letters);
        Check.is("seen from where it is kept", duel.did(0), 17);
        duel.keep();
        duel.forget();
        duel.wipe();
        duel.back();
        Check.is("forgotten stays forgotten", duel.count(5), 0);
        Check.is("wiped stays wiped", duel.count(8), 0);
    }

    /** 'behind which nothing can be UNDONE', 'nothing is UNDONE then'. */
    private static void backThenNothingIsUndone() {
        HedgeDuel duel = Check.laid(Check.CALM + "h0,1,5,9;");
        duel.pass(2);
        duel.keep();
        for (int i = 0; i < 9; i++) {
            duel.act(0, 0);
        }
        Check.is("eight can be", duel.count(6), 8);
        duel.back();
        Check.is("none can be", duel.count(6), 0);
        Check.is("none is", duel.undo(), NO);
        Check.is("two months", duel.count(1), 2);
        duel.act(0, 0);
        Check.is("what comes behind it can be", duel.undo(), 0);
        Check.is("two months again", duel.count(1), 2);
    }

    private static void backOverALoss() {
        HedgeDuel duel = Check.laid("l1;h0,3,0,9;h1,1,20,9;r2;");
        duel.act(0, 0);
        duel.keep();
        duel.act(0, 0);
        duel.keep();
        Check.is("lost", duel.count(3), 0);
        Check.is("back to a loss", duel.back(), 1);
        Check.is("lost still", duel.act(0, 0), NO);
        Check.is("back ahead of it", duel.back(), 0);
        Check.is("not lost", duel.count(3), NONE);
        Check.is("one on end", duel.hedge(0, 6), 1);
        Check.is("lost again", duel.act(0, 0), 1);
        Check.is("by N", duel.count(3), 0);
    }

    private static void backOverTheYear() {
        HedgeDuel duel = Check.laid(Check.CALM + "h0,2,20,0;");
        duel.pass(11);
        duel.keep();
        duel.pass(24);
        Check.is("back", duel.back(), 0);
        Check.is("eleven months", duel.count(1), 11);
        int high = duel.hedge(0, 1);
        duel.pass(3);
        Check.is("three of frost", duel.hedge(0, 1), high - 6);
    }

    /** 'How many: 0 .. 8', 'BAD'. */
    private static void countNumbers() {
        HedgeDuel duel = new HedgeDuel();
        int[] due = {10, 0, 9, NONE, 2, 0, 0, 0, 0};
        for (int what = -4; what <= 14; what++) {
            Check.is("count " + what, duel.count(what), what >= 0 && what <= 8 ? due[what] : BAD);
        }
    }

    private static void countsAtTheirMost() {
        HedgeDuel duel = Check.laid("l40;w99;r6;h0,1,0,99;h1,1,0,99;");
        for (int i = 0; i < 20; i++) {
            duel.pass(24);
            duel.see(0, 1, 1);
            duel.keep();
        }
        for (int i = 0; i < 201; i++) {
            duel.write('w');
        }
        Check.are("most", Check.counts(duel), 40, 480, 99, NONE, 6, 6, 8, 2, 200);
    }

    private static void countsAtTheirLeast() {
        HedgeDuel duel = Check.laid("l1;w0;r1;h0,1,0,0;h1,1,0,0;");
        duel.wipe();
        Check.are("least", Check.counts(duel), 1, 0, 0, NONE, 1, 0, 0, 0, 0);
        duel.plant(0, 0);
        Check.are("a refused planting", Check.counts(duel), 1, 0, 0, NONE, 1, 0, 0, 0, 0);
        HedgeDuel other = lost();
        Check.is("P 0 has lost", other.count(3), 0);
        Check.is("one month", other.count(1), 1);
        other.undo();
        Check.is("none has", other.count(3), NONE);
    }
}
