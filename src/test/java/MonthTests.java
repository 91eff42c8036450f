/** Promises 8 to 11: months, months in which both do nothing, planting, undoing. */
public final class MonthTests {
    private static final int BAD = -1, NO = -2, NONE = -4;
    private static final int NOTHING = 0, CLIP = 1, DUNG = 2, WATER = 3, LEAN = 4;

    private static final String CALM = Check.CALM;

    public static void main(String[] args) {
        growth();
        frost();
        clip();
        dung();
        water();
        dry();
        lean();
        shaded();
        onEnd();
        actBad();
        pass();
        passLost();
        plant();
        plantBad();
        undo();
        undoEight();
        Check.end("MonthTests");
    }

    /** Both hedges are alike, so that P 0 and P 1 are tested the same. */
    private static HedgeDuel alike(int kind, int high, int coins, String more) {
        String hedge = "," + kind + "," + high + "," + coins + ";";
        return Check.laid(CALM + "h0" + hedge + "h1" + hedge + more);
    }

    private static void grows(int kind, int high, int coins, int deed, int due, int coinsLeft, String more) {
        HedgeDuel duel = alike(kind, high, coins, more);
        String what = "kind " + kind + " " + high + " high, deed " + deed + " " + more;
        Check.is(what, duel.act(deed, deed), 0);
        for (int p = 0; p < 2; p++) {
            Check.is(what + " of " + p, duel.hedge(p, 1), due);
            Check.is(what + ", coins of " + p, duel.hedge(p, 3), coinsLeft);
            Check.is(what + ", kind of " + p, duel.hedge(p, 0), kind);
        }
        Check.is("a month has gone by", duel.count(1), 1);
    }

    private static void growth() {
        int[][] rows = {{0, 0, 3}, {0, 5, 8}, {0, 21, 24}, {0, 22, 24}, {0, 24, 24}, {0, 25, 25}, {0, 40, 40},
            {1, 0, 1}, {1, 39, 40}, {1, 40, 40}, {3, 0, 1}, {3, 9, 10}, {3, 10, 10}, {3, 11, 11}, {3, 40, 40},
            {4, 0, 2}, {4, 34, 36}, {4, 35, 36}, {4, 36, 36}, {4, 37, 37}};
        for (int[] row : rows) {
            grows(row[0], row[1], 9, NOTHING, row[2], 9, "");
        }
    }

    private static void frost() {
        int[][] rows = {{6, 4}, {2, 0}, {1, 0}, {0, 0}, {30, 28}, {31, 31}, {40, 40}};
        for (int[] row : rows) {
            grows(2, row[0], 9, NOTHING, row[1], 9, "");
        }
        HedgeDuel duel = alike(2, 20, 0, "");
        int[] heights = {18, 16, 18, 20, 22, 24, 26, 28, 30, 30, 30, 28, 26, 24, 26};
        for (int m = 0; m < heights.length; m++) {
            duel.act(NOTHING, NOTHING);
            Check.is("bay behind month " + m, duel.hedge(0, 1), heights[m]);
            Check.is("the other bay behind month " + m, duel.hedge(1, 1), heights[m]);
        }
        grows(2, 6, 9, DUNG, 6, 6, "");
        grows(2, 30, 9, DUNG, 30, 6, "");
        grows(2, 31, 9, DUNG, 31, 6, "");
        grows(2, 2, 9, DUNG, 0, 6, "");
        grows(2, 6, 9, WATER, 5, 8, "");
        grows(2, 1, 9, WATER, 0, 8, "");
        grows(2, 0, 9, WATER, 0, 8, "");
        grows(2, 6, 9, CLIP, 2, 9, "");
        grows(2, 3, 9, CLIP, 0, 9, "");
        grows(2, 32, 9, CLIP, 28, 9, "");
        grows(2, 33, 9, CLIP, 31, 9, "");
        grows(2, 6, 9, NOTHING, 6, 9, "d0;");
        grows(2, 6, 9, WATER, 5, 8, "d0;");
    }

    private static void clip() {
        grows(0, 5, 9, CLIP, 6, 9, "");
        grows(0, 1, 9, CLIP, 3, 9, "");
        grows(0, 0, 0, CLIP, 3, 0, "");
        grows(0, 27, 9, CLIP, 25, 9, "");
        grows(0, 26, 9, CLIP, 24, 9, "");
        grows(3, 13, 9, CLIP, 11, 9, "");
        grows(3, 12, 9, CLIP, 10, 9, "");
        grows(3, 11, 9, CLIP, 10, 9, "");
        grows(1, 20, 9, CLIP, 18, 9, "d0;");
        grows(1, 1, 9, CLIP, 0, 9, "d0;");
    }

    private static void dung() {
        grows(0, 5, 3, DUNG, 10, 0, "");
        grows(0, 5, 4, DUNG, 10, 1, "");
        grows(0, 5, 2, DUNG, 8, 2, "");
        grows(0, 5, 0, DUNG, 8, 0, "");
        grows(0, 3, 9, DUNG, 8, 6, "");
        grows(0, 2, 9, DUNG, 4, 6, "");
        grows(0, 1, 9, DUNG, 3, 6, "");
        grows(0, 0, 9, DUNG, 3, 6, "");
        grows(0, 2, 2, DUNG, 5, 2, "");
        grows(0, 20, 9, DUNG, 24, 6, "");
        grows(0, 25, 9, DUNG, 25, 6, "");
        grows(1, 3, 9, DUNG, 6, 6, "");
        grows(3, 2, 9, DUNG, 2, 6, "");
        grows(4, 30, 9, DUNG, 34, 6, "");
        grows(4, 10, 9, DUNG, 10, 6, "d0;");
        grows(4, 2, 9, DUNG, 1, 6, "d0;");
        grows(4, 0, 9, DUNG, 0, 6, "d0;");
    }

    private static void water() {
        grows(0, 5, 1, WATER, 9, 0, "");
        grows(0, 5, 0, WATER, 8, 0, "");
        grows(0, 5, 7, WATER, 8, 7, "w0;");
        grows(0, 0, 7, WATER, 4, 6, "w2;");
        grows(0, 23, 7, WATER, 24, 6, "w2;");
        grows(0, 25, 7, WATER, 25, 6, "w2;");
        HedgeDuel duel = alike(1, 5, 3, "w1;");
        duel.act(WATER, WATER);
        Check.are("P 0 has the water", Check.hedge(duel, 0), 1, 7, 0, 2, 0);
        Check.are("P 1 has none", Check.hedge(duel, 1), 1, 6, 0, 3, 0);
        Check.is("the well is empty", duel.count(2), 0);
        duel = Check.laid(CALM + "h0,1,5,0;h1,1,5,3;w1;");
        duel.act(WATER, WATER);
        Check.is("P 0 can not pay", duel.hedge(0, 1), 6);
        Check.is("so P 1 has it", duel.hedge(1, 1), 7);
        duel = alike(1, 5, 3, "w9;");
        duel.act(WATER, NOTHING);
        Check.is("one of the well", duel.count(2), 8);
        duel.act(WATER, WATER);
        Check.is("two of the well", duel.count(2), 6);
        duel.act(DUNG, DUNG);
        duel.act(WATER, WATER);
        Check.is("what is not paid is not taken", duel.count(2), 4);
        duel.act(WATER, WATER);
        Check.is("only P 1 has a coin left", duel.count(2), 3);
        duel.act(WATER, WATER);
        Check.is("not taken", duel.count(2), 3);
    }

    private static void dry() {
        for (int kind = 0; kind < 5; kind++) {
            grows(kind, 9, 9, NOTHING, 9, 9, "d0;");
            grows(kind, 40, 9, NOTHING, 40, 9, "d0;");
        }
        grows(0, 9, 9, WATER, 13, 8, "d0;");
        grows(1, 9, 9, WATER, 11, 8, "d0;");
        grows(3, 9, 9, WATER, 10, 8, "d0;");
        grows(4, 9, 9, WATER, 12, 8, "d0;");
        grows(4, 9, 0, WATER, 9, 0, "d0;");
        grows(4, 9, 9, WATER, 9, 9, "d0;w0;");
        grows(4, 9, 9, LEAN, 9, 9, "d0;");
        HedgeDuel duel = alike(1, 5, 3, "d0;");
        duel.act(WATER, DUNG);
        Check.is("who has water grows", duel.hedge(0, 1), 7);
        Check.is("who has none stays", duel.hedge(1, 1), 5);
        duel = alike(1, 5, 3, "d1;");
        duel.pass(3);
        Check.is("only the dry month", duel.hedge(0, 1), 7);
        duel.pass(11);
        Check.is("again a year on", duel.hedge(0, 1), 17);
    }

    private static void lean() {
        HedgeDuel duel = alike(1, 5, 0, "");
        int[] leans = {1, 2, 3, 3, 3};
        for (int due : leans) {
            duel.act(LEAN, NOTHING);
            Check.is("leans", duel.hedge(0, 2), due);
            Check.is("the other one does not", duel.hedge(1, 2), 0);
        }
        duel.act(CLIP, LEAN);
        Check.is("leans still", duel.hedge(0, 2), 3);
        Check.is("leans now", duel.hedge(1, 2), 1);
        Check.is("grows as ever", duel.hedge(1, 1), 11);
    }

    private static void shades(String text, int a, int b, int due) {
        Check.is("act " + a + " " + b + " of " + text, Check.laid(text).act(a, b), due);
    }

    /** Sun 5 at the end: a hedge of 6 has a shadow of 10. */
    private static void shaded() {
        shades("l10;h0,0,0,0;h1,1,5,0;", NOTHING, NOTHING, 1);
        shades("l10;h1,0,0,0;h0,1,5,0;", NOTHING, NOTHING, 2);
        shades("l11;h0,0,0,0;h1,1,5,0;", NOTHING, NOTHING, 0);
        shades("l11;h0,0,0,0;h1,1,5,0;", NOTHING, LEAN, 1);
        shades("l11;h0,0,0,0;h1,1,5,0;", LEAN, NOTHING, 0);
        shades("l10;h0,0,3,0;h1,1,5,0;", NOTHING, NOTHING, 0);
        shades("l10;h0,0,2,0;h1,1,5,0;", NOTHING, NOTHING, 1);
        shades("l10;h0,0,5,0;h1,1,5,0;", CLIP, NOTHING, 0);
        shades("l1;h0,0,5,0;h1,1,6,0;", NOTHING, NOTHING, 2);
        shades("l10;h0,0,0,0;h1,1,5,0;s0,6;", NOTHING, NOTHING, 0);
        shades("l10;h0,0,0,0;h1,1,5,0;s1,9;", NOTHING, NOTHING, 1);
        shades("l1;h0,0,0,0;h1,0,0,0;", LEAN, LEAN, 0);
        shades("l1;h0,1,0,0;h1,3,0,0;s0,9;", LEAN, CLIP, 0);
        shades("l1;h0,4,0,0;h1,3,0,0;s0,9;", NOTHING, NOTHING, 0);
        shades("l1;h0,4,0,0;h1,3,0,0;s0,9;", LEAN, NOTHING, 2);
        shades("l15;h0,0,0,0;h1,1,4,0;s0,1;", NOTHING, NOTHING, 1);
        shades("l16;h0,0,0,0;h1,1,4,0;s0,1;", NOTHING, NOTHING, 0);
    }

    private static void onEnd() {
        HedgeDuel duel = Check.laid("l10;h0,3,0,9;h1,1,10,9;s2,9;r3;");
        Check.is("shaded once", duel.act(NOTHING, NOTHING), 1);
        Check.is("one month", duel.hedge(0, 6), 1);
        Check.is("shaded twice", duel.act(NOTHING, NOTHING), 1);
        Check.is("two months", duel.hedge(0, 6), 2);
        Check.is("not by sun 9", duel.act(NOTHING, NOTHING), 0);
        Check.is("none on end", duel.hedge(0, 6), 0);
        for (int due = 1; due <= 3; due++) {
            Check.is("not lost yet", duel.count(3), NONE);
            Check.is("shaded anew", duel.act(NOTHING, NOTHING), 1);
            Check.is("on end anew", duel.hedge(0, 6), due);
        }
        Check.is("has lost", duel.count(3), 0);
        Check.is("he has", duel.hedge(0, 7), 1);
        Check.is("the other one has not", duel.hedge(1, 7), 0);
        String before = Check.all(duel);
        Check.is("no month goes by", duel.act(NOTHING, NOTHING), NO);
        Check.is("nothing changes", Check.all(duel).equals(before) ? 1 : 0, 1);
        Check.is("BAD ahead of NO", duel.act(5, 0), BAD);
        HedgeDuel second = Check.laid("l10;h1,3,0,9;h0,1,10,9;r1;");
        Check.is("P 1 is shaded", second.act(NOTHING, NOTHING), 2);
        Check.is("P 1 has lost", second.count(3), 1);
    }

    private static void actBad() {
        HedgeDuel duel = alike(1, 5, 9, "");
        String before = Check.all(duel);
        int[][] bad = {{-1, 0}, {0, -1}, {5, 0}, {0, 5}, {Integer.MAX_VALUE, 0}, {0, Integer.MIN_VALUE}, {2, 5}, {5, 2}};
        for (int[] call : bad) {
            Check.is("act " + call[0] + " " + call[1], duel.act(call[0], call[1]), BAD);
        }
        Check.is("nothing changes", Check.all(duel).equals(before) ? 1 : 0, 1);
    }

    private static void pass() {
        HedgeDuel duel = alike(1, 5, 9, "d3;");
        Check.is("pass 1", duel.pass(1), 1);
        Check.is("pass 24", duel.pass(24), 25);
        Check.is("in all", duel.count(1), 25);
        Check.are("grown", Check.hedge(duel, 0), 1, 28, 0, 9, 0);
        Check.is("one undoing each", duel.count(6), 2);
        duel.act(NOTHING, NOTHING);
        Check.is("pass 2", duel.pass(2), 28);
        int[] bad = {0, 25, -1, Integer.MIN_VALUE, Integer.MAX_VALUE};
        for (int n : bad) {
            Check.is("pass " + n, duel.pass(n), BAD);
        }
        Check.is("nothing has gone by", duel.count(1), 28);
    }

    private static void passLost() {
        HedgeDuel duel = Check.laid("l10;h0,3,0,9;h1,1,10,9;r3;");
        Check.is("fewer", duel.pass(24), 3);
        Check.is("lost", duel.count(3), 0);
        Check.are("as at the loss", Check.hedge(duel, 1), 1, 13, 0, 9, 0);
        Check.is("pass when lost", duel.pass(1), NO);
        Check.is("BAD ahead of NO", duel.pass(0), BAD);
        Check.is("one to undo", duel.count(6), 1);
        Check.is("undone", duel.undo(), 0);
        Check.is("not lost", duel.count(3), NONE);
        Check.is("two months", duel.pass(2), 2);
        Check.is("not yet lost", duel.count(3), NONE);
    }

    private static void plant() {
        HedgeDuel duel = Check.laid("l10;h0,3,0,9;h1,1,10,14;r5;");
        duel.act(LEAN, LEAN);
        duel.act(LEAN, LEAN);
        Check.is("coins left", duel.plant(0, 2), 4);
        Check.are("planted", Check.hedge(duel, 0), 2, 1, 0, 4, 2);
        Check.are("the other one stays", Check.hedge(duel, 1), 1, 12, 2, 14, 0);
        Check.is("no month", duel.count(1), 2);
        Check.is("an undoing", duel.count(6), 3);
        Check.is("four are too few", duel.plant(0, 2), NO);
        Check.is("the other one", duel.plant(1, 4), 9);
        Check.is("again", duel.plant(1, 4), 4);
        Check.are("planted too", Check.hedge(duel, 1), 4, 1, 0, 4, 0);
        Check.is("five are enough", Check.laid("h0,1,1,5;").plant(0, 0), 0);
        for (int kind = 0; kind < 5; kind++) {
            HedgeDuel any = Check.laid("h0,1,9,7;h1,2,8,6;");
            Check.is("of any kind", any.plant(1, kind), 1);
            Check.is("that kind", any.hedge(1, 0), kind);
        }
    }

    private static void plantBad() {
        HedgeDuel duel = Check.laid("l10;h0,3,0,2;h1,1,10,14;r1;");
        int[][] bad = {{-1, 0}, {2, 0}, {0, -1}, {0, 5}, {1, 5}, {Integer.MIN_VALUE, 0}, {0, Integer.MAX_VALUE}};
        for (int[] call : bad) {
            Check.is("plant " + call[0] + " " + call[1], duel.plant(call[0], call[1]), BAD);
        }
        Check.is("too few", duel.plant(0, 1), NO);
        duel.act(NOTHING, NOTHING);
        String before = Check.all(duel);
        Check.is("lost", duel.plant(1, 1), NO);
        Check.is("BAD ahead of NO", duel.plant(1, 5), BAD);
        Check.is("nothing changes", Check.all(duel).equals(before) ? 1 : 0, 1);
    }

    private static void undo() {
        HedgeDuel duel = Check.laid("l10;h0,3,4,30;h1,1,10,30;d1;r6;w3;");
        Check.is("undo of nothing", duel.undo(), NO);
        String[] stood = new String[4];
        stood[0] = Check.all(duel);
        duel.act(WATER, DUNG);
        stood[1] = Check.all(duel);
        duel.pass(4);
        stood[2] = Check.all(duel);
        duel.plant(0, 1);
        stood[3] = Check.all(duel);
        duel.act(LEAN, WATER);
        for (int i = 3; i >= 0; i--) {
            Check.is("undo", duel.undo(), i);
            Check.is("as it stood " + i, Check.all(duel).equals(stood[i]) ? 1 : 0, 1);
        }
        Check.is("no more", duel.undo(), NO);
        duel.see(0, 2, 3);
        duel.act(0, 0);
        duel.see(0, 2, 4);
        duel.undo();
        Check.is("what is seen stays", duel.count(5), 2);
        duel.pass(1);
        duel.act(9, 9);
        duel.pass(99);
        duel.plant(0, 9);
        Check.is("what was BAD is no undoing", duel.count(6), 1);
    }

    private static void undoEight() {
        HedgeDuel duel = alike(1, 5, 0, "");
        for (int i = 1; i <= 11; i++) {
            duel.pass(1);
            Check.is("can be undone", duel.count(6), Math.min(i, 8));
        }
        for (int i = 7; i >= 0; i--) {
            Check.is("undo of eight", duel.undo(), i);
            Check.is("the months", duel.count(1), 3 + i);
            Check.is("the height", duel.hedge(0, 1), 8 + i);
        }
        Check.is("the older ones are gone", duel.undo(), NO);
        duel.pass(2);
        Check.is("undo after all", duel.undo(), 0);
        Check.is("three months", duel.count(1), 3);
    }
}
