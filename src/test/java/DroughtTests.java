/** Promises 21 to 25: droughts by chance, years by draws, duels kept, counts. */
public final class DroughtTests {
    private static final int BAD = -1, NO = -2, FULL = -3, NONE = -4;

    /** A BOX and a PRIVET 5 high, the strip 10 long, sun 5: P 0 is shaded once a month was not dry. */
    private static final String CHANCE = "l10;h0,3,5,9;h1,0,5,9;r1;";
    private static final String LOST = "l1;h0,3,0,9;h1,1,20,9;r1;";

    public static void main(String[] args) {
        drought();
        droughtOnEnd();
        droughtLost();
        droughtBad();
        year();
        yearLost();
        keep();
        back();
        keptTwice();
        count();
        Check.end("DroughtTests");
    }

    private static void chance(HedgeDuel duel, int p, int n, int x, int above, int below) {
        Check.is("drought " + p + " " + n + " " + x + " above", duel.drought(p, n, x, 0), above);
        Check.is("drought " + p + " " + n + " " + x + " below", duel.drought(p, n, x, 1), below);
    }

    private static void drought() {
        for (String told : new String[] {"", "d0;d1;d2;d3;d4;d5;"}) {
            HedgeDuel duel = Check.laid(CHANCE + told);
            chance(duel, 0, 0, 3, 0, 1);
            chance(duel, 0, 1, 3, 7, 10);
            chance(duel, 0, 1, 2, 4, 5);
            chance(duel, 0, 1, 5, 1, 2);
            chance(duel, 0, 2, 3, 91, 100);
            chance(duel, 0, 3, 5, 7, 8);
            chance(duel, 0, 6, 5, 63, 64);
            chance(duel, 0, 6, 1, 999999, 1000000);
            chance(duel, 0, 1, 0, 1, 1);
            chance(duel, 0, 6, 0, 1, 1);
            chance(duel, 0, 6, 10, 0, 1);
            chance(duel, 1, 6, 5, 0, 1);
            chance(duel, 1, 6, 0, 0, 1);
        }
        HedgeDuel other = Check.laid("l10;h1,3,5,9;h0,0,5,9;r1;");
        chance(other, 1, 2, 3, 91, 100);
        chance(other, 0, 2, 3, 0, 1);
    }

    private static void droughtOnEnd() {
        HedgeDuel duel = Check.laid(CHANCE + "r2;");
        chance(duel, 0, 1, 3, 0, 1);
        chance(duel, 0, 2, 3, 7, 10);
        chance(duel, 0, 3, 3, 91, 100);
        duel.act(0, 0);
        chance(duel, 0, 1, 3, 1, 1);
        chance(duel, 0, 0, 3, 0, 1);
        // a frosty month and a BAY: it is lower than the BOX if that month is not dry
        HedgeDuel bay = Check.laid("l5;h0,2,5,9;h1,3,5,9;r1;");
        chance(bay, 0, 1, 4, 3, 5);
        bay.pass(1);
        Check.is("lost by frost", bay.count(3), 0);
    }

    private static void droughtLost() {
        HedgeDuel duel = Check.laid(LOST);
        duel.act(0, 0);
        for (int n = 0; n <= 6; n++) {
            chance(duel, 0, n, 5, 1, 1);
            chance(duel, 1, n, 5, 0, 1);
        }
    }

    private static void droughtBad() {
        HedgeDuel duel = Check.laid(CHANCE);
        int[][] bad = {{-1, 0, 0, 0}, {2, 0, 0, 0}, {0, -1, 0, 0}, {0, 7, 0, 0}, {0, 0, -1, 0}, {0, 0, 11, 0}, {0, 0, 0, -1},
            {0, 0, 0, 2}, {0, Integer.MAX_VALUE, 0, 0}, {Integer.MIN_VALUE, 1, 1, 1}, {0, 1, Integer.MAX_VALUE, 1}};
        for (int[] b : bad) {
            Check.is("drought " + b[0] + " " + b[1] + " " + b[2] + " " + b[3], duel.drought(b[0], b[1], b[2], b[3]), BAD);
        }
        String before = Check.all(duel);
        duel.drought(0, 6, 5, 0);
        Check.is("asking changes nothing", Check.all(duel).equals(before) ? 1 : 0, 1);
    }

    /** The draws: by 0 they do 0 0, then 3 2; by 1 they do 1 0 first. */
    private static void year() {
        HedgeDuel duel = Check.laid("l40;r6;h0,1,9,9;h1,1,9,9;s0,9;s1,9;s2,9;d4;");
        int[][] rows = {{0, 1, 10, 10}, {0, 2, 12, 13}, {1, 1, 8, 10}};
        for (int[] row : rows) {
            Check.is("P 0's by " + row[0] + " of " + row[1], duel.year(row[0], row[1], 0), row[2]);
            Check.is("P 1's by " + row[0] + " of " + row[1], duel.year(row[0], row[1], 1), row[3]);
            Check.is("none by " + row[0] + " of " + row[1], duel.year(row[0], row[1], 2), NONE);
        }
        duel.pass(5);
        Check.is("from now on", duel.year(0, 1, 0), 14);
        Check.is("the first draw is of k 0", duel.year(0, 2, 1), 17);
        int[][] bad = {{-1, 1, 0}, {10000, 1, 0}, {0, 0, 0}, {0, 41, 0}, {0, 1, -1}, {0, 1, 3}, {Integer.MIN_VALUE, 1, 0},
            {0, Integer.MAX_VALUE, 0}, {0, 1, Integer.MAX_VALUE}};
        for (int[] call : bad) {
            Check.is("year " + call[0] + " " + call[1] + " " + call[2], duel.year(call[0], call[1], call[2]), BAD);
        }
        DuelModel model = new DuelModel();
        HedgeDuel first = new HedgeDuel();
        for (int z = 0; z < 10000; z += 101) {
            for (int what = 0; what < 3; what++) {
                Check.is("year " + z, first.year(z, 40, what), model.year(z, 40, what));
                Check.is("month " + z, first.year(z, 1, what), model.year(z, 1, what));
            }
        }
        Check.is("year 9999", first.year(9999, 40, 1), model.year(9999, 40, 1));
    }

    private static void yearLost() {
        HedgeDuel duel = Check.laid(LOST);
        Check.is("fewer months", duel.year(0, 40, 1), 21);
        Check.is("P 0 has lost", duel.year(0, 40, 2), 0);
        duel.act(0, 0);
        Check.is("lost already", duel.year(7, 40, 2), 0);
        Check.is("as it is", duel.year(7, 40, 1), 21);
        Check.is("as it is, P 0", duel.year(7, 40, 0), 1);
        Check.is("no month gone by", duel.count(1), 1);
        HedgeDuel other = Check.laid("l1;h1,3,0,9;h0,1,20,9;r1;");
        Check.is("P 1 has lost", other.year(0, 40, 2), 1);
    }

    private static void keep() {
        HedgeDuel duel = Check.laid("l20;h0,1,9,9;h1,2,9,9;w5;");
        Check.is("keep", duel.keep(), 1);
        Check.is("keep two", duel.keep(), 2);
        Check.is("two are kept", duel.count(7), 2);
        Check.is("a third", duel.keep(), FULL);
        Check.is("still two", duel.count(7), 2);
        duel.act(3, 3);
        Check.is("a third again", duel.keep(), FULL);
        Check.is("the latest", duel.back(), 1);
        Check.is("as kept, not as now", duel.count(1), 0);
        Check.is("keep anew", duel.keep(), 2);
        HedgeDuel lost = Check.laid(LOST);
        lost.act(0, 0);
        Check.is("kept though lost", lost.keep(), 1);
        lost.undo();
        lost.back();
        Check.is("lost again", lost.count(3), 0);
    }

    private static void back() {
        String text = "l10;h0,1,3,9;h1,2,9,9;w5;r5;d1;";
        HedgeDuel duel = Check.laid(text);
        Check.is("nothing kept", duel.back(), NO);
        duel.act(4, 3);
        duel.act(3, 2);
        int[] zero = Check.hedge(duel, 0);
        int[] one = Check.hedge(duel, 1);
        duel.keep();
        duel.plant(0, 3);
        duel.act(4, 4);
        duel.pass(2);
        duel.see(0, 3, 4);
        Check.put(duel, "!!");
        Check.is("back", duel.back(), 0);
        Check.are("P 0's as kept", Check.hedge(duel, 0), zero);
        Check.are("P 1's as kept", Check.hedge(duel, 1), one);
        Check.is("months", duel.count(1), 2);
        Check.is("well", duel.count(2), 3);
        Check.is("what is seen stays", duel.count(5), 1);
        Check.is("the text stays", duel.count(8), text.length() + 2);
        Check.is("nothing is undone", duel.count(6), 0);
        Check.is("undo", duel.undo(), NO);
        Check.is("no more", duel.back(), NO);
        duel.act(0, 0);
        Check.is("undone as ever", duel.undo(), 0);
        Check.is("back when nothing is kept changes nothing", duel.count(1), 2);
    }

    private static void keptTwice() {
        HedgeDuel duel = Check.laid("l40;r6;h0,1,9,9;h1,1,9,9;s0,9;s1,9;");
        duel.act(1, 0);
        duel.keep();
        duel.act(2, 4);
        Check.is("keeping is not undone", duel.count(6), 2);
        duel.undo();
        Check.is("undoing leaves what is kept", duel.count(7), 1);
        duel.act(3, 4);
        duel.keep();
        duel.pass(4);
        Check.is("back to the latest", duel.back(), 1);
        Check.are("as kept last", Check.hedge(duel, 0), 1, 10, 0, 8, 0);
        Check.is("leaning", duel.hedge(1, 2), 1);
        Check.is("back to the first", duel.back(), 0);
        Check.are("as kept first", Check.hedge(duel, 0), 1, 8, 0, 9, 0);
        Check.is("not leaning", duel.hedge(1, 2), 0);
        Check.is("one month", duel.count(1), 1);
    }

    private static void count() {
        HedgeDuel duel = Check.laid("l33;w7;r4;h0,1,9,9;");
        duel.act(3, 3);
        duel.pass(3);
        duel.keep();
        duel.see(0, 1, 2);
        duel.see(0, 1, 3);
        duel.see(1, 1, 3);
        int[] counts = {33, 4, 5, NONE, 4, 3, 2, 1, 19};
        for (int what = 0; what < counts.length; what++) {
            Check.is("count " + what, duel.count(what), counts[what]);
        }
        int[] bad = {-1, 9, 10, Integer.MIN_VALUE, Integer.MAX_VALUE};
        for (int what : bad) {
            Check.is("count " + what, duel.count(what), BAD);
        }
        HedgeDuel lost = Check.laid("l1;h1,3,0,9;h0,1,20,9;r1;");
        lost.pass(9);
        Check.is("who has lost", lost.count(3), 1);
        Check.is("months gone by", lost.count(1), 1);
    }
}
