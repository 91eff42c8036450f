/** Boundary cases of promises 8 to 11: months, planting, undoing. A sentence of the document to each method. */
public final class MonthEdgeTests {
    private static final int BAD = -1, NO = -2, NONE = -4;
    private static final int NOTHING = 0, CLIP = 1, DUNG = 2, WATER = 3, LEAN = 4;
    private static final int PRIVET = 0, YEW = 1, BAY = 2, BOX = 3, HOLLY = 4;
    private static final int[] BOUND = {24, 40, 30, 10, 36};
    private static final int[] GROWTH = {3, 1, 2, 1, 2};

    public static void main(String[] args) {
        actNumbers();
        monthsWrapByActing();
        monthsWrapByPassing();
        frostOnlyInItsMonths();
        clipToNothing();
        dungForThreeCoins();
        dungFromThreeHighOn();
        dungToNothing();
        dungUnpaidDoesNoHarm();
        waterForOneCoin();
        waterOfAnEmptyWell();
        lastWaterIsForTheFirst();
        leanThreeAtMost();
        stopsAtTheBound();
        aboveTheBoundStays();
        clippedFromAboveTheBound();
        belowNothingStops();
        dryStays();
        dryGrowsByWater();
        shadedFromTheEdgeOn();
        shadedOnlyIfLower();
        sunOfTheMonthItself();
        noneOnEndWhenNotShaded();
        lostBehindN();
        noMonthGoesByAnyMore();
        allHeights();
        passNumbers();
        passFewerIfLost();
        passWhenLost();
        plantNumbers();
        plantForFiveCoins();
        plantWhenLost();
        plantKeepsMonthsOnEnd();
        undoOfNothing();
        undoEightAtMost();
        undoEightPlantings();
        undoOfTwentyFourAtOnce();
        undoOfALoss();
        undoOfWhatWasRefused();
        Check.end("MonthEdgeTests");
    }

    private static HedgeDuel calm(String more) {
        return Check.laid(Check.CALM + more);
    }

    /** Both P have the hedge, so that either is tested; how high it is behind one month. */
    private static void grows(String what, String hedge, String more, int deed, int high, int coins) {
        HedgeDuel duel = calm("h0," + hedge + ";h1," + hedge + ";" + more);
        duel.act(deed, deed);
        for (int p = 0; p < 2; p++) {
            Check.is(what + ": " + hedge + " " + more + " how high, P " + p, duel.hedge(p, 1), high);
            Check.is(what + ": " + hedge + " " + more + " coins, P " + p, duel.hedge(p, 3), coins);
        }
    }

    /** 'P 0 does a, P 1 b', of 0 to 4: 'BAD'. */
    private static void actNumbers() {
        for (int a = -2; a <= 6; a++) {
            for (int b = -2; b <= 6; b++) {
                boolean good = a >= 0 && a <= 4 && b >= 0 && b <= 4;
                HedgeDuel duel = calm("");
                Check.is("act " + a + " " + b, duel.act(a, b), good ? 0 : BAD);
                Check.is("months behind act " + a + " " + b, duel.count(1), good ? 1 : 0);
                Check.is("undone behind act " + a + " " + b, duel.count(6), good ? 1 : 0);
            }
        }
    }

    /** 'behind month 11 month 0 comes again': dry and sunny as month 0 is. */
    private static void monthsWrapByActing() {
        HedgeDuel duel = calm("l14;s0,1;d0;h0,3,0,0;h1,1,5,0;");
        int high = 5;
        for (int m = 0; m < 37; m++) {
            high += m % 12 == 0 ? 0 : 1;
            Check.is("shaded in month " + m, duel.act(NOTHING, NOTHING), m % 12 == 0 ? 1 : 0);
            Check.is("high behind month " + m, duel.hedge(1, 1), high);
            Check.is("months", duel.count(1), m + 1);
        }
    }

    private static void monthsWrapByPassing() {
        HedgeDuel duel = calm("d11;h0,1,0,0;h1,2,20,0;");
        Check.is("to month 11", duel.pass(11), 11);
        Check.are("yew, bay", heights(duel), 11, 34 - 4);
        Check.is("over month 11", duel.pass(1), 12);
        Check.are("dry, so no frost either", heights(duel), 11, 30);
        Check.is("month 0 again", duel.pass(1), 13);
        Check.are("frost", heights(duel), 12, 28);
        Check.is("two years on", duel.pass(24), 37);
        Check.are("two dry months less", heights(duel), 34, 28);
    }

    private static int[] heights(HedgeDuel duel) {
        return new int[] {duel.hedge(0, 1), duel.hedge(1, 1)};
    }

    /** 'in months 0, 1, 11 it is 2 lower in place of that'. */
    private static void frostOnlyInItsMonths() {
        int[] changes = {-2, -2, 2, 2, 2, 2, 2, 2, 2, 2, 2, -2};
        for (int m = 0; m < 36; m++) {
            HedgeDuel duel = calm("h0,2,10,0;" + Check.ALL_DRY.replace("d" + m % 12 + ";", ""));
            for (int i = 0; i < m; i++) {
                duel.act(NOTHING, NOTHING);
            }
            int before = duel.hedge(0, 1);
            duel.act(NOTHING, NOTHING);
            Check.is("bay in month " + m, duel.hedge(0, 1) - before, before < 2 && changes[m % 12] < 0 ? -before
                : changes[m % 12]);
        }
        grows("no frost for other kinds", "0,5,0", "", NOTHING, 8, 0);
        grows("no frost for other kinds", "1,5,0", "", NOTHING, 6, 0);
        grows("no frost for other kinds", "3,5,0", "", NOTHING, 6, 0);
        grows("no frost for other kinds", "4,5,0", "", NOTHING, 7, 0);
    }

    /** 'CLIP: his HEDGE is 2 lower (0 at least)'; then it grows from there. */
    private static void clipToNothing() {
        int[][] rows = {{0, 0}, {1, 0}, {2, 0}, {3, 1}, {4, 2}};
        for (int[] row : rows) {
            grows("clip", "1," + row[0] + ",0", "", CLIP, row[1] + 1, 0);
            grows("clip in a dry month", "1," + row[0] + ",0", "d0;", CLIP, row[1], 0);
        }
    }

    /** 'DUNG, for 3 coins', 'What can not be paid .. is as nothing'. */
    private static void dungForThreeCoins() {
        for (int coins = 0; coins <= 7; coins++) {
            grows("dung", "1,5," + coins, "", DUNG, coins < 3 ? 6 : 8, coins < 3 ? coins : coins - 3);
        }
        HedgeDuel duel = calm("h0,1,5,8;");
        duel.act(DUNG, NOTHING);
        duel.act(DUNG, NOTHING);
        duel.act(DUNG, NOTHING);
        Check.is("two of three are paid", duel.hedge(0, 1), 5 + 3 + 3 + 1);
        Check.is("coins are left", duel.hedge(0, 3), 2);
    }

    /** 'but if it is less than 3 high, it is 1 lower .. in place of those 2'. */
    private static void dungFromThreeHighOn() {
        grows("dung at 3", "1,3,9", "", DUNG, 6, 6);
        grows("dung at 2", "1,2,9", "", DUNG, 2, 6);
        grows("dung at 1", "1,1,9", "", DUNG, 1, 6);
        grows("dry at 3", "1,3,9", "d0;", DUNG, 3, 6);
        grows("dry at 2", "1,2,9", "d0;", DUNG, 1, 6);
        grows("dry at 1", "1,1,9", "d0;", DUNG, 0, 6);
    }

    /** 'it is 1 lower (0 at least)'. */
    private static void dungToNothing() {
        grows("dung at 0", "1,0,9", "", DUNG, 1, 6);
        grows("dung at 0", "0,0,9", "", DUNG, 3, 6);
        grows("dung at 0 in a dry month", "1,0,9", "d0;", DUNG, 0, 6);
        grows("dung of a bay in frost", "2,0,9", "", DUNG, 0, 6);
        grows("dung of a bay in frost", "2,2,9", "", DUNG, 0, 6);
        grows("dung of a bay in frost", "2,3,9", "", DUNG, 3, 6);
    }

    private static void dungUnpaidDoesNoHarm() {
        grows("dung unpaid", "1,2,2", "", DUNG, 3, 2);
        grows("dung unpaid", "1,1,0", "d0;", DUNG, 1, 0);
    }

    /** 'WATER, for 1 coin': without one it is as nothing, in a dry month too. */
    private static void waterForOneCoin() {
        grows("water", "1,5,1", "", WATER, 7, 0);
        grows("water unpaid", "1,5,0", "", WATER, 6, 0);
        grows("dry", "1,5,1", "d0;", WATER, 7, 0);
        grows("dry, unpaid", "1,5,0", "d0;", WATER, 5, 0);
        HedgeDuel duel = calm("h0,1,5,0;h1,1,5,1;w2;");
        duel.act(WATER, WATER);
        Check.is("what is unpaid is left in the well", duel.count(2), 1);
    }

    /** 'and 1 of the WELL': nothing is paid if there is none. */
    private static void waterOfAnEmptyWell() {
        grows("no water", "1,5,9", "w0;", WATER, 6, 9);
        grows("no water, dry", "1,5,9", "w0;d0;", WATER, 5, 9);
        grows("just enough", "1,5,9", "w2;d0;", WATER, 7, 8);
        HedgeDuel duel = calm("h0,1,5,99;h1,1,5,99;w99;");
        for (int left = 97; left > 0; left -= 2) {
            duel.act(WATER, WATER);
            Check.is("left in the well", duel.count(2), left);
        }
        duel.act(WATER, WATER);
        Check.is("not below 0", duel.count(2), 0);
        duel.act(WATER, WATER);
        Check.is("empty", duel.count(2), 0);
        Check.are("coins for 50 and for 49", new int[] {duel.hedge(0, 3), duel.hedge(1, 3)}, 49, 50);
    }

    /** 'P 0 first'. */
    private static void lastWaterIsForTheFirst() {
        HedgeDuel duel = calm("h0,1,5,9;h1,1,5,9;w1;d0;");
        duel.act(WATER, WATER);
        Check.are("P 0", Check.hedge(duel, 0), YEW, 7, 0, 8, 0);
        Check.are("P 1", Check.hedge(duel, 1), YEW, 5, 0, 9, 0);
        duel.undo();
        Check.is("in the well again", duel.count(2), 1);
        duel.act(NOTHING, WATER);
        Check.is("for P 1, if P 0 takes none", duel.hedge(1, 1), 7);
    }

    /** 'it LEANS 1 farther (3 at most)'. */
    private static void leanThreeAtMost() {
        HedgeDuel duel = calm("h0,1,5,0;h1,1,5,0;");
        for (int i = 1; i <= 6; i++) {
            duel.act(LEAN, LEAN);
            Check.is("P 0 leans", duel.hedge(0, 2), Math.min(i, 3));
            Check.is("P 1 leans", duel.hedge(1, 2), Math.min(i, 3));
        }
        Check.is("it grows as ever", duel.hedge(0, 1), 11);
    }

    /** 'one that would come above its bound stops there'. */
    private static void stopsAtTheBound() {
        for (int kind = PRIVET; kind <= HOLLY; kind++) {
            for (int deed : new int[] {NOTHING, DUNG, WATER, LEAN}) {
                int growth = GROWTH[kind] + (deed == DUNG ? 2 : deed == WATER ? 1 : 0);
                for (int high = BOUND[kind] - growth - 1; high <= BOUND[kind]; high++) {
                    // month 2, for a bay has frost in the ones ahead of it, which are dry here
                    HedgeDuel duel = calm("d0;d1;h0," + kind + "," + high + ",9;");
                    duel.pass(2);
                    duel.act(deed, NOTHING);
                    int due = high < BOUND[kind] - growth ? BOUND[kind] - 1 : BOUND[kind];
                    Check.is("kind " + kind + ", " + high + ", deed " + deed, duel.hedge(0, 1), due);
                }
            }
        }
    }

    /** 'one that is above it already stays as it is (a BAY in those months, too)'. */
    private static void aboveTheBoundStays() {
        for (int kind : new int[] {PRIVET, BAY, BOX, HOLLY}) {
            for (int high : new int[] {BOUND[kind] + 1, BOUND[kind] + 2, 40}) {
                grows("above", kind + "," + high + ",9", "", NOTHING, high, 9);
                grows("above, dunged", kind + "," + high + ",9", "", DUNG, high, 6);
                grows("above, watered", kind + "," + high + ",9", "", WATER, high, 8);
                grows("above, dry, watered", kind + "," + high + ",9", "d0;", WATER, high, 8);
            }
        }
        grows("a bay at its bound in frost", "2,30,9", "", NOTHING, 28, 9);
        HedgeDuel duel = calm("h0,2,31,0;h1,3,11,0;");
        duel.pass(24);
        Check.are("for years", heights(duel), 31, 11);
    }

    /** Clipped first, then it grows: from its bound or below, or stays above. */
    private static void clippedFromAboveTheBound() {
        int[][] rows = {{PRIVET, 24, 24}, {PRIVET, 25, 24}, {PRIVET, 26, 24}, {PRIVET, 27, 25}, {BOX, 10, 9}, {BOX, 11, 10},
            {BOX, 12, 10}, {BOX, 13, 11}, {BAY, 32, 28}, {BAY, 33, 31}, {HOLLY, 36, 36}, {HOLLY, 38, 36}, {HOLLY, 39, 37},
            {YEW, 40, 39}};
        for (int[] row : rows) {
            grows("clipped", row[0] + "," + row[1] + ",0", "", CLIP, row[2], 0);
        }
    }

    /** 'one that would come below 0 stops at 0': a bay in frost. */
    private static void belowNothingStops() {
        grows("frost", "2,0,0", "", NOTHING, 0, 0);
        grows("frost", "2,1,0", "", NOTHING, 0, 0);
        grows("frost", "2,2,0", "", NOTHING, 0, 0);
        grows("frost", "2,3,0", "", NOTHING, 1, 0);
        grows("frost and water", "2,0,9", "", WATER, 0, 8);
        grows("frost and water", "2,1,9", "", WATER, 0, 8);
        grows("frost and water", "2,2,9", "", WATER, 1, 8);
        grows("frost and clipping", "2,4,9", "", CLIP, 0, 9);
        grows("frost and clipping", "2,5,9", "", CLIP, 1, 9);
    }

    /** 'In a DRY month one that has no WATER stays as it is.' */
    private static void dryStays() {
        for (int kind = PRIVET; kind <= HOLLY; kind++) {
            for (int high : new int[] {0, 1, 5, BOUND[kind], 40}) {
                grows("dry", kind + "," + high + ",9", "d0;", NOTHING, high, 9);
                grows("dry", kind + "," + high + ",9", "d0;", LEAN, high, 9);
                grows("dry, no water left", kind + "," + high + ",9", "d0;w0;", WATER, high, 9);
                grows("dunged in vain", kind + "," + Math.max(3, high) + ",9", "d0;", DUNG, Math.max(3, high), 6);
            }
        }
    }

    /** 'it grows 1 more, and grows in a DRY month, too'. */
    private static void dryGrowsByWater() {
        int[] due = {9, 7, 4, 7, 8};
        for (int kind = PRIVET; kind <= HOLLY; kind++) {
            grows("dry, watered", kind + ",5,9", "d0;", WATER, due[kind], 8);
            grows("not dry, watered", kind + ",5,9", "", WATER, due[kind], 8);
        }
    }

    /** 'no less far than L less what that one LEANS': 6 high, by sun 5, goes 10. */
    private static void shadedFromTheEdgeOn() {
        for (int p = 0; p < 2; p++) {
            for (int length = 1; length <= 14; length++) {
                HedgeDuel duel = Check.laid("l" + length + ";h" + p + ",3,0,0;h" + (1 - p) + ",1,5,0;");
                Check.is("strip of " + length + ", P " + p, duel.act(0, 0), length <= 10 ? 1 + p : 0);
                duel.undo();
                Check.is("leaning to it", duel.act(p * LEAN, (1 - p) * LEAN), length <= 11 ? 1 + p : 0);
                duel.undo();
                Check.is("leaning away from it", duel.act((1 - p) * LEAN, p * LEAN), length <= 10 ? 1 + p : 0);
            }
        }
    }

    /** 'and his own is lower than that one': at the end of the month. */
    private static void shadedOnlyIfLower() {
        Check.is("lower", Check.laid("l1;h0,1,8,0;h1,1,9,0;").act(0, 0), 1);
        Check.is("as high", Check.laid("l1;h0,1,9,0;h1,1,9,0;").act(0, 0), 0);
        Check.is("higher", Check.laid("l1;h0,1,10,0;h1,1,9,0;").act(0, 0), 2);
        Check.is("lower, then as high", Check.laid("l1;h0,1,8,1;h1,1,9,0;").act(WATER, 0), 0);
        Check.is("lower, then higher", Check.laid("l1;h0,1,8,3;h1,1,9,0;").act(DUNG, 0), 2);
        Check.is("as high, then lower", Check.laid("l1;h0,1,9,3;h1,1,9,0;").act(CLIP, 0), 1);
    }

    /** 'At the end of a MONTH (by its SUN)': not by the next one's. */
    private static void sunOfTheMonthItself() {
        String hedges = "l10;h0,3,0,0;h1,1,5,0;r6;";
        Check.is("dark month 0", Check.laid(hedges + "s0,5;s1,9;").act(0, 0), 1);
        Check.is("bright month 0", Check.laid(hedges + "s0,9;s1,1;").act(0, 0), 0);
        HedgeDuel duel = Check.laid(hedges + "s0,9;s1,9;s2,9;s3,9;s4,9;s5,9;s6,9;s7,9;s8,9;s9,9;s10,9;s11,1;");
        Check.is("to month 11", duel.pass(11), 11);
        Check.is("dark month 11", duel.act(0, 0), 1);
        Check.is("bright month 0 again", duel.act(0, 0), 0);
    }

    /** 'who is not for none'. */
    private static void noneOnEndWhenNotShaded() {
        HedgeDuel duel = Check.laid("l10;h0,3,0,0;h1,1,10,0;r6;s5,9;");
        for (int i = 1; i <= 5; i++) {
            Check.is("shaded", duel.act(0, 0), 1);
            Check.is("on end", duel.hedge(0, 6), i);
        }
        Check.is("bright", duel.act(0, 0), 0);
        Check.is("none", duel.hedge(0, 6), 0);
        Check.is("five more", duel.pass(5), 11);
        Check.is("five on end", duel.hedge(0, 6), 5);
        Check.is("not lost", duel.count(3), NONE);
        Check.is("the sixth", duel.act(0, 0), 1);
        Check.is("lost", duel.count(3), 0);
    }

    /** 'who has been for N has LOST'. */
    private static void lostBehindN() {
        for (int need = 1; need <= 6; need++) {
            HedgeDuel duel = Check.laid("l1;h1,3,0,0;h0,1,20,0;r" + need + ";");
            for (int i = 1; i <= need; i++) {
                Check.is("N " + need + ", ahead of month " + i, duel.count(3), NONE);
                Check.is("N " + need + ", month " + i, duel.act(0, 0), 2);
            }
            Check.is("N " + need + ", lost", duel.count(3), 1);
            Check.is("N " + need + ", no more", duel.act(0, 0), NO);
        }
    }

    /** 'no MONTH goes by any more', 'NO: one has LOST'. */
    private static void noMonthGoesByAnyMore() {
        HedgeDuel duel = Check.laid("l1;h0,3,0,9;h1,1,20,9;r1;");
        duel.act(0, 0);
        String before = Check.all(duel);
        for (int a = 0; a <= 4; a++) {
            for (int b = 0; b <= 4; b++) {
                Check.is("lost, act " + a + " " + b, duel.act(a, b), NO);
            }
        }
        Check.is("nothing changes", Check.all(duel).equals(before) ? 1 : 0, 1);
        Check.is("lost, act 5 0", duel.act(5, 0), BAD);
        Check.is("lost, act 0 -1", duel.act(0, -1), BAD);
        Check.is("one undone", duel.undo(), 0);
        Check.is("a month goes by again", duel.act(0, 0), 1);
    }

    /** Every height of every kind by every deed, dry or not, in frost or not, as the model tells. */
    private static void allHeights() {
        for (int kind = PRIVET; kind <= HOLLY; kind++) {
            for (int high = 0; high <= 40; high++) {
                for (int way = 0; way < 4; way++) {
                    String text = "l20;h0," + kind + "," + high + ",9;h1," + kind + "," + (40 - high) + ",2;"
                        + (way < 2 ? "" : "d0;") + (way % 2 == 0 ? "" : "d2;") + "w3;";
                    HedgeDuel duel = Check.laid(text);
                    DuelModel model = new DuelModel();
                    text.chars().forEach(model::write);
                    model.lay();
                    allDeeds(text, duel, model);
                    Check.is(text + " pass", duel.pass(2), model.pass(2));
                    allDeeds(text + " month 2", duel, model);
                }
            }
        }
    }

    private static void allDeeds(String text, HedgeDuel duel, DuelModel model) {
        for (int deed = 0; deed <= 4; deed++) {
            Check.is(text + " act " + deed, duel.act(deed, deed), model.act(deed, deed));
            for (int p = 0; p < 2; p++) {
                Check.is(text + " high, deed " + deed, duel.hedge(p, 1), model.hedge(p, 1));
                Check.is(text + " coins, deed " + deed, duel.hedge(p, 3), model.hedge(p, 3));
            }
            Check.is(text + " undo", duel.undo(), model.undo());
        }
    }

    /** 'n MONTHS (1 to 24)', 'BAD'. */
    private static void passNumbers() {
        for (int n = -3; n <= 30; n++) {
            boolean good = n >= 1 && n <= 24;
            HedgeDuel duel = calm("h0,1,5,0;");
            Check.is("pass " + n, duel.pass(n), good ? n : BAD);
            Check.is("high behind pass " + n, duel.hedge(0, 1), good ? 5 + n : 5);
            Check.is("undone behind pass " + n, duel.count(6), good ? 1 : 0);
        }
    }

    /** '(fewer, if one has LOST): how many have gone by in all'. */
    private static void passFewerIfLost() {
        for (int n = 1; n <= 24; n++) {
            HedgeDuel duel = Check.laid("l10;h0,3,0,9;h1,1,10,9;r6;");
            Check.is("pass " + n, duel.pass(n), Math.min(n, 6));
            Check.is("lost behind " + n, duel.count(3), n < 6 ? NONE : 0);
            Check.is("high behind " + n, duel.hedge(1, 1), 10 + Math.min(n, 6));
            Check.is("on end behind " + n, duel.hedge(0, 6), Math.min(n, 6));
        }
        HedgeDuel late = calm("l10;s3,1;r1;h0,3,0,0;h1,1,10,0;d4;");
        Check.is("in all, not of these", late.pass(2) + late.pass(24), 2 + 4);
    }

    private static void passWhenLost() {
        HedgeDuel duel = Check.laid("l1;h0,3,0,9;h1,1,20,9;r1;");
        Check.is("pass", duel.pass(2), 1);
        for (int n = 1; n <= 24; n++) {
            Check.is("lost, pass " + n, duel.pass(n), NO);
        }
        Check.is("lost, pass 0", duel.pass(0), BAD);
        Check.is("lost, pass 25", duel.pass(25), BAD);
        Check.is("one can be undone", duel.count(6), 1);
    }

    /** 'A HEDGE can be planted anew .. of any KIND', 'BAD'. */
    private static void plantNumbers() {
        for (int p = -2; p <= 3; p++) {
            for (int kind = -2; kind <= 6; kind++) {
                boolean good = p >= 0 && p <= 1 && kind >= 0 && kind <= 4;
                HedgeDuel duel = calm("h0,1,9,7;h1,2,8,7;");
                Check.is("plant " + p + " " + kind, duel.plant(p, kind), good ? 2 : BAD);
                Check.is("undone behind plant " + p + " " + kind, duel.count(6), good ? 1 : 0);
                Check.is("month behind plant " + p + " " + kind, duel.count(1), 0);
                Check.are("P 0 behind plant " + p + " " + kind, Check.hedge(duel, 0),
                    good && p == 0 ? new int[] {kind, 1, 0, 2, 0} : new int[] {YEW, 9, 0, 7, 0});
                Check.are("P 1 behind plant " + p + " " + kind, Check.hedge(duel, 1),
                    good && p == 1 ? new int[] {kind, 1, 0, 2, 0} : new int[] {BAY, 8, 0, 7, 0});
            }
        }
    }

    /** 'for 5 coins', 'NO: fewer than 5'. */
    private static void plantForFiveCoins() {
        for (int coins = 0; coins <= 12; coins++) {
            HedgeDuel duel = calm("h0,1,9," + coins + ";h1,1,9," + coins + ";");
            for (int p = 0; p < 2; p++) {
                Check.is("P " + p + " of " + coins, duel.plant(p, BOX), coins < 5 ? NO : coins - 5);
                Check.is("coins left of " + coins, duel.hedge(p, 3), coins < 5 ? coins : coins - 5);
                Check.is("high by " + coins, duel.hedge(p, 1), coins < 5 ? 9 : 1);
            }
            Check.is("undone", duel.count(6), coins < 5 ? 0 : 2);
            Check.is("BAD ahead of NO", duel.plant(0, 5), BAD);
            Check.is("BAD ahead of NO", duel.plant(2, 0), BAD);
        }
    }

    /** 'NO: .. one has LOST': either of them. */
    private static void plantWhenLost() {
        HedgeDuel duel = Check.laid("l1;h0,3,0,99;h1,1,20,99;r1;");
        duel.act(0, 0);
        String before = Check.all(duel);
        for (int kind = 0; kind <= 4; kind++) {
            Check.is("who has lost plants " + kind, duel.plant(0, kind), NO);
            Check.is("who has won plants " + kind, duel.plant(1, kind), NO);
        }
        Check.is("lost, plant 0 5", duel.plant(0, 5), BAD);
        Check.is("lost, plant -1 0", duel.plant(-1, 0), BAD);
        Check.is("nothing changes", Check.all(duel).equals(before) ? 1 : 0, 1);
    }

    /** '1 high, LEANING 0 (its P SHADED for as many MONTHS on end as ahead of it)'. */
    private static void plantKeepsMonthsOnEnd() {
        HedgeDuel duel = Check.laid("l10;h0,3,0,20;h1,1,10,20;r6;");
        for (int i = 0; i < 5; i++) {
            duel.act(LEAN, LEAN);
        }
        Check.is("planted by the other one", duel.plant(1, HOLLY), 15);
        Check.are("the other one's", Check.hedge(duel, 1), HOLLY, 1, 0, 15, 0);
        Check.are("his is not touched", Check.hedge(duel, 0), BOX, 5, 3, 20, 5);
        duel.undo();
        Check.is("planted", duel.plant(0, PRIVET), 15);
        Check.are("five on end", Check.hedge(duel, 0), PRIVET, 1, 0, 15, 5);
        Check.is("not lost yet", duel.count(3), NONE);
        duel.act(0, 0);
        Check.is("lost by the sixth", duel.count(3), 0);
        HedgeDuel same = calm("h0,3,1,20;");
        Check.is("the same kind, as high", same.plant(0, BOX), 15);
        Check.is("is planted all the same", same.count(6), 1);
    }

    /** 'NO': a new object, a new laying, all undone. */
    private static void undoOfNothing() {
        HedgeDuel duel = new HedgeDuel();
        Check.is("new", duel.undo(), NO);
        duel.act(0, 0);
        Check.is("one", duel.undo(), 0);
        String before = Check.all(duel);
        Check.is("all undone", duel.undo(), NO);
        Check.is("nothing changes", Check.all(duel).equals(before) ? 1 : 0, 1);
        duel.act(0, 0);
        duel.write('w');
        duel.write('1');
        duel.write(';');
        duel.lay();
        Check.is("laid anew", duel.undo(), NO);
    }

    /** 'the last 8 can be': of nine the first one can not. */
    private static void undoEightAtMost() {
        for (int done = 0; done <= 20; done++) {
            HedgeDuel duel = calm("h0,1,5,99;");
            for (int i = 0; i < done; i++) {
                duel.pass(1);
            }
            int can = Math.min(done, 8);
            Check.is("of " + done + " can be undone", duel.count(6), can);
            for (int left = can - 1; left >= 0; left--) {
                Check.is("undo of " + done, duel.undo(), left);
                Check.is("can be undone still", duel.count(6), left);
                Check.is("high, " + left + " left of " + done, duel.hedge(0, 1), 5 + done - can + left);
            }
            Check.is("no more of " + done, duel.undo(), NO);
            Check.is("months left of " + done, duel.count(1), done - can);
        }
    }

    /** Plantings count as months do: of the nine of either P the first one can not be undone. */
    private static void undoEightPlantings() {
        for (int p = 0; p < 2; p++) {
            HedgeDuel duel = calm("h" + p + ",4,5,99;");
            for (int i = 0; i < 9; i++) {
                duel.plant(p, (i + 1) % 5);
            }
            Check.is("eight plantings can be", duel.count(6), 8);
            for (int i = 7; i >= 0; i--) {
                Check.is("undo of a planting", duel.undo(), i);
                Check.are("as planted " + i, Check.hedge(duel, p), (i + 1) % 5, 1, 0, 94 - 5 * i, 0);
            }
            Check.is("no more", duel.undo(), NO);
        }
    }

    /** 'all that go by at one time are one'. */
    private static void undoOfTwentyFourAtOnce() {
        HedgeDuel duel = calm("h0,1,5,99;h1,2,20,7;");
        duel.pass(10);
        int[] before = heights(duel);
        Check.is("over two years' ends", duel.pass(24), 34);
        Check.is("undo", duel.undo(), 1);
        Check.is("ten months", duel.count(1), 10);
        Check.are("heights", heights(duel), before);
        Check.is("month 10 comes next", duel.act(0, 0), 0);
        Check.are("no frost yet", heights(duel), 16, 30);
        duel.act(0, 0);
        Check.are("frost", heights(duel), 17, 28);
    }

    /** What is lost is lost no more when it is undone. */
    private static void undoOfALoss() {
        HedgeDuel duel = Check.laid("l1;h0,3,0,9;h1,1,20,9;r2;");
        duel.act(0, 0);
        duel.act(0, 0);
        Check.is("lost", duel.count(3), 0);
        Check.is("undo when lost", duel.undo(), 1);
        Check.is("not lost", duel.count(3), NONE);
        Check.is("one on end", duel.hedge(0, 6), 1);
        Check.is("plant again", duel.plant(1, BAY), 4);
        Check.is("undo twice", duel.undo(), 1);
        Check.is("undo all", duel.undo(), 0);
        Check.is("none on end", duel.hedge(0, 6), 0);
    }

    /** 'nothing changes then': what was refused is nothing to undo. */
    private static void undoOfWhatWasRefused() {
        HedgeDuel duel = calm("h0,1,5,4;");
        duel.act(0, 0);
        duel.act(5, 0);
        duel.act(0, 5);
        duel.pass(0);
        duel.pass(25);
        duel.plant(0, 0);
        duel.plant(2, 0);
        duel.plant(1, 5);
        Check.is("one", duel.count(6), 1);
        Check.is("the month", duel.undo(), 0);
        Check.is("no month", duel.count(1), 0);
    }
}
