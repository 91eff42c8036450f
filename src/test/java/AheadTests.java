/** Promises 12 to 16: what comes. */
public final class AheadTests {
    private static final int BAD = -1, NO = -2, NONE = -4;

    /** P 0 is shaded in month 0 whatever he does, and has lost behind it, for N is 1. */
    private static final String LOST = "l1;h0,3,0,9;h1,1,20,9;r1;";

    public static void main(String[] args) {
        behind();
        behindLost();
        soonest();
        soonestRows();
        soonestNone();
        hold();
        holdRows();
        play();
        playLost();
        kind();
        kindLost();
        changeNothing();
        Check.end("AheadTests");
    }

    private static void behind() {
        HedgeDuel duel = Check.laid("l40;h0,2,9,9;h1,1,9,9;s0,9;s1,9;s2,9;s3,9;d2;r6;");
        int[] bays = {9, 7, 5, 5, 7};
        int[] yews = {9, 10, 11, 11, 12};
        for (int n = 0; n < bays.length; n++) {
            Check.is("P 0's behind " + n, duel.behind(n, 0), bays[n]);
            Check.is("P 1's behind " + n, duel.behind(n, 1), yews[n]);
            Check.is("nobody has lost behind " + n, duel.behind(n, 2), NONE);
        }
        int[][] bad = {{-1, 0}, {37, 0}, {0, -1}, {0, 3}, {37, 3}, {Integer.MIN_VALUE, 0}, {0, Integer.MAX_VALUE}};
        for (int[] call : bad) {
            Check.is("behind " + call[0] + " " + call[1], duel.behind(call[0], call[1]), BAD);
        }
        HedgeDuel yew = Check.laid("l40;h0,1,0,9;h1,1,0,9;");
        Check.is("36 months", yew.behind(36, 0), 36);
        yew.pass(3);
        Check.is("from now on", yew.behind(36, 0), 39);
    }

    /** BOX 0 against YEW 10, a strip of 10: shaded in every month but 2, whose sun is 9. */
    private static void behindLost() {
        HedgeDuel duel = Check.laid("l10;h0,3,0,9;h1,1,10,9;s2,9;r3;");
        Check.is("not behind 5", duel.behind(5, 2), NONE);
        Check.is("behind 6", duel.behind(6, 2), 0);
        Check.is("no month more", duel.behind(36, 1), 16);
        Check.is("nor for him", duel.behind(36, 0), 6);
        duel.pass(2);
        Check.is("two were on end", duel.behind(4, 2), 0);
        Check.is("not sooner", duel.behind(3, 2), NONE);
        duel.pass(4);
        Check.is("has lost", duel.behind(0, 2), 0);
        Check.is("stays lost", duel.behind(9, 2), 0);
        Check.is("as it is", duel.behind(9, 1), 16);
        HedgeDuel leaning = Check.laid("l12;h0,3,0,0;h1,1,4,0;r1;");
        leaning.act(0, 4);
        Check.is("7 high, a shadow of 11, not yet", leaning.behind(1, 2), NONE);
        Check.is("11 of 12, leaning", leaning.behind(2, 2), 0);
        Check.is("P 1 can lose", Check.laid("l1;h1,3,0,9;h0,1,20,9;r1;").behind(1, 2), 1);
    }

    private static void row(String text, int p, int... due) {
        HedgeDuel duel = Check.laid(text);
        int[] got = new int[6];
        int[] all = {due.length == 0 ? NONE : due.length, NONE, NONE, NONE, NONE, NONE};
        for (int k = 0; k <= 5; k++) {
            got[k] = duel.soonest(p, k);
            if (k > 0 && k <= due.length) {
                all[k] = due[k - 1];
            }
        }
        Check.are("soonest of " + p + " in " + text, got, all);
    }

    private static void soonest() {
        HedgeDuel duel = Check.laid(LOST);
        int[][] bad = {{-1, 0}, {2, 0}, {0, -1}, {0, 6}, {2, 6}, {Integer.MAX_VALUE, 0}, {0, Integer.MIN_VALUE}};
        for (int[] call : bad) {
            Check.is("soonest " + call[0] + " " + call[1], duel.soonest(call[0], call[1]), BAD);
        }
        Check.is("of one month", duel.soonest(1, 0), 1);
        Check.is("none of none", duel.soonest(0, 0), NONE);
        Check.is("none, k 1", duel.soonest(0, 1), NONE);
        duel.act(0, 0);
        Check.is("lost", duel.soonest(1, 0), NO);
        Check.is("lost, k 5", duel.soonest(0, 5), NO);
        Check.is("BAD ahead of NO", duel.soonest(1, 6), BAD);
    }

    private static void soonestRows() {
        row("l10;h0,1,9,0;h1,3,0,0;r1;", 0, 0);
        row("l10;h1,1,9,0;h0,3,0,0;r1;", 1, 0);
        row("l10;h0,1,9,0;h1,3,0,0;r5;", 0, 0, 0, 0, 0, 0);
        row("l10;h0,1,9,0;h1,3,0,0;r6;", 0);
        // a shadow of 10 and one lean, or of 11 by water, or of 13 by dung: the first of them is dung
        row("l11;h0,1,5,3;h1,3,0,0;r1;", 0, 2);
        row("l11;h0,1,5,2;h1,3,0,0;r1;", 0, 3);
        row("l11;h0,1,5,2;h1,3,0,0;r1;w0;", 0, 4);
        row("l11;h1,1,5,2;h0,3,0,0;r1;w0;", 1, 4);
        // 6 is far enough with one lean in either month, 7 is far enough without
        row("l11;h0,1,4,0;h1,3,0,0;r1;", 0, 0, 4);
        row("l11;h0,1,4,0;h1,3,0,0;r2;", 0, 0, 4, 0);
        // both grow alike: only who dungs or waters is higher
        row("l1;h0,3,5,9;h1,3,5,0;r1;", 0, 2);
        row("l1;h0,3,5,1;h1,3,5,0;r1;", 0, 3);
        row("l1;h0,3,5,0;h1,3,5,0;r1;", 0);
        // in a dry month only water makes it higher
        row("l1;h0,3,5,9;h1,3,5,0;r1;d0;", 0, 3);
        row("l1;h0,3,5,9;h1,3,5,0;r1;d0;w0;", 0, 0, 2);
    }

    private static void soonestNone() {
        row("l40;h0,3,0,0;h1,3,0,0;r1;", 0);
        // the other one, who has lost nothing, shades P 0 first
        row("l1;h0,3,0,0;h1,1,9,0;r1;", 0);
        HedgeDuel duel = Check.laid("l10;h0,1,9,0;h1,3,0,0;r3;");
        duel.act(0, 0);
        Check.is("one is gone by", duel.soonest(0, 0), 2);
        Check.is("no third", duel.soonest(0, 3), NONE);
    }

    private static int[] holding(String text, int p, int n) {
        HedgeDuel duel = Check.laid(text);
        int[] row = new int[n];
        for (int k = 1; k <= n; k++) {
            row[k - 1] = duel.hold(p, n, k);
        }
        return row;
    }

    private static void hold() {
        HedgeDuel duel = Check.laid(LOST);
        int[][] bad = {{-1, 1, 1}, {2, 1, 1}, {0, 0, 1}, {0, 6, 1}, {0, 0, 0}, {0, 3, 0}, {0, 3, 4}, {0, 5, 6}, {0, 1, -1},
            {Integer.MAX_VALUE, 1, 1}, {0, Integer.MAX_VALUE, 1}, {0, 2, Integer.MIN_VALUE}};
        for (int[] call : bad) {
            Check.is("hold " + call[0] + " " + call[1] + " " + call[2], duel.hold(call[0], call[1], call[2]), BAD);
        }
        Check.is("none", duel.hold(0, 1, 1), NONE);
        Check.is("none of 5", duel.hold(0, 5, 5), NONE);
        Check.is("the other one", duel.hold(1, 1, 1), 0);
        duel.act(0, 0);
        Check.is("lost", duel.hold(1, 1, 1), NO);
        Check.is("lost himself", duel.hold(0, 5, 5), NO);
        Check.is("BAD ahead of NO", duel.hold(0, 1, 2), BAD);
    }

    private static void holdRows() {
        Check.are("nothing is needed", holding("l40;h0,3,0,0;h1,3,0,0;", 0, 5), 0, 0, 0, 0, 0);
        // BOX 5 against a dunged BOX: 8 to 6; only dung keeps up
        Check.are("dung", holding("l1;h0,3,5,3;h1,3,5,3;r1;", 0, 1), 2);
        Check.are("dung, P 1", holding("l1;h0,3,5,3;h1,3,5,3;r1;", 1, 1), 2);
        Check.are("dung, then nothing", holding("l1;h0,3,5,3;h1,3,5,3;r1;", 0, 3), 2, 0, 0);
        Check.are("can not be paid", holding("l1;h0,3,5,2;h1,3,5,3;r1;", 0, 1), NONE);
        Check.are("water, if the other one can not pay", holding("l1;h0,3,5,2;h1,3,6,2;r1;", 0, 1), 3);
        Check.are("one month without", holding("l1;h0,3,5,2;h1,3,6,2;r2;", 0, 1), 0);
        Check.are("then water", holding("l1;h0,3,5,2;h1,3,6,2;r2;", 0, 2), 0, 3);
        // the other one dungs below 3 high, so he is lower
        Check.are("dunged too early", holding("l1;h0,3,1,0;h1,3,2,3;r1;", 0, 1), 0);
        // the other one loses behind the first month: the rest is nothing
        Check.are("the other one loses", holding("l1;h0,1,9,0;h1,3,0,0;r1;", 0, 4), 0, 0, 0, 0);
        Check.are("a dry month", holding("l1;h0,3,5,9;h1,3,5,9;r1;d0;", 0, 1), 0);
        HedgeDuel duel = Check.laid("l1;h0,3,5,3;h1,3,5,3;r2;");
        duel.act(0, 2);
        Check.is("shaded once", duel.hedge(0, 6), 1);
        Check.is("dung is due now", duel.hold(0, 1, 1), 2);
    }

    private static void plays(String text, int n, int by, int first) {
        HedgeDuel duel = Check.laid(text);
        Check.is("play " + n + " of " + text, duel.play(n, 0), by + 200);
        Check.is("first of play " + n + " of " + text, duel.play(n, 1), first);
    }

    private static void play() {
        HedgeDuel duel = Check.laid(LOST);
        int[][] bad = {{0, 0}, {4, 0}, {1, -1}, {1, 2}, {-1, 0}, {4, 2}, {Integer.MIN_VALUE, 0}, {1, Integer.MAX_VALUE}};
        for (int[] call : bad) {
            Check.is("play " + call[0] + " " + call[1], duel.play(call[0], call[1]), BAD);
        }
        duel.act(0, 0);
        Check.is("lost", duel.play(1, 0), NO);
        Check.is("lost, first", duel.play(3, 1), NO);
        Check.is("BAD ahead of NO", duel.play(0, 0), BAD);
        // nobody can be shaded: both dung as long as they can pay
        plays("l40;h0,3,5,0;h1,3,5,0;w0;", 1, 0, 0);
        plays("l40;h0,3,5,3;h1,3,5,0;w0;", 1, 2, 2);
        plays("l40;h0,3,5,0;h1,3,5,3;w0;", 1, -2, 0);
        plays("l40;h0,3,5,3;h1,3,5,3;", 1, 0, 2);
        plays("l40;h0,3,5,1;h1,3,5,1;w1;", 1, 1, 3);
        plays("l40;h0,3,5,0;h1,3,5,1;w1;", 1, -1, 0);
        plays("l40;h0,1,5,2;h1,1,5,0;", 2, 2, 3);
        plays("l40;h0,1,5,1;h1,1,5,0;", 3, 1, 0);
        plays("l40;h0,1,1,3;h1,1,5,0;", 2, -2, 3);
        // dung is of use from 3 high on alone: nothing first
        plays("l40;h0,1,1,3;h1,1,5,0;w0;", 2, -4, 0);
        plays("l40;h0,1,1,3;h1,1,5,0;w0;", 3, -2, 0);
        plays("l40;h0,1,5,9;h1,1,5,9;d0;d1;w1;", 2, 2, 3);
    }

    private static void playLost() {
        // P 0 is higher and far enough: P 1 loses whatever he does
        plays("l1;h0,1,20,0;h1,3,0,0;r1;", 1, 120, 0);
        plays("l1;h0,1,20,0;h1,3,0,0;r1;", 3, 120, 0);
        plays("l1;h1,1,20,0;h0,3,0,0;r1;", 3, -120, 0);
        plays("l1;h1,1,20,0;h0,3,0,0;r2;", 1, -20, 0);
        plays("l1;h1,1,20,0;h0,3,0,0;r2;", 2, -120, 0);
        // leaning wins more than growing
        plays("l11;h0,1,5,0;h1,3,0,0;r1;w0;", 1, 105, 4);
        plays("l11;h1,1,5,0;h0,3,0,0;r1;w0;", 1, -105, 0);
    }

    private static void kinds(String text, int p, int n, int which, int high) {
        HedgeDuel duel = Check.laid(text);
        Check.is("kind of " + p + " behind " + n + " in " + text, duel.kind(p, n, 0), which);
        Check.is("its height, " + p + " behind " + n + " in " + text, duel.kind(p, n, 1), high);
    }

    private static void kind() {
        String calm = Check.CALM;
        kinds(calm + "h0,3,0,0;h1,1,0,0;", 0, 1, 0, 3);
        kinds(calm + "h0,3,0,0;h1,1,0,0;", 1, 1, 0, 3);
        kinds(calm + "h0,3,0,0;", 0, 8, 0, 24);
        kinds(calm + "h0,3,0,0;", 0, 12, 0, 24);
        kinds(calm + "h0,3,0,0;", 0, 13, 4, 26);
        kinds(calm + "h0,3,20,0;", 0, 1, 0, 23);
        kinds(calm + "h0,3,22,0;", 0, 1, 0, 24);
        kinds(calm + "h0,3,23,0;", 0, 1, 4, 25);
        kinds(calm + "h0,3,36,0;", 0, 1, 1, 37);
        kinds(calm + "h0,3,40,0;", 0, 24, 0, 40);
        kinds(calm + "h0,3,40,0;d0;", 0, 1, 0, 40);
        kinds(calm + "h0,3,9,0;d0;", 0, 1, 0, 9);
        kinds(calm + "h0,3,9,0;" + Check.ALL_DRY, 0, 24, 0, 9);
        kinds(calm + "h0,1,26,0;h1,2,25,0;", 1, 1, 4, 27);
        kinds(calm + "h0,1,26,0;h1,2,25,0;", 0, 24, 1, 40);
        HedgeDuel duel = Check.laid(LOST);
        int[][] bad = {{-1, 1, 0}, {2, 1, 0}, {0, 0, 0}, {0, 25, 0}, {0, 1, -1}, {0, 1, 2}, {0, Integer.MAX_VALUE, 0},
            {Integer.MIN_VALUE, 1, 0}, {0, 1, Integer.MIN_VALUE}};
        for (int[] call : bad) {
            Check.is("kind " + call[0] + " " + call[1] + " " + call[2], duel.kind(call[0], call[1], call[2]), BAD);
        }
        duel.act(0, 0);
        Check.is("lost", duel.kind(0, 1, 0), NO);
        Check.is("lost, how high", duel.kind(1, 24, 1), NO);
        Check.is("BAD ahead of NO", duel.kind(1, 25, 1), BAD);
    }

    private static void kindLost() {
        // as PRIVET, 3 then, P 0 has lost behind the first month, as any other kind too
        kinds("l1;h0,1,0,0;h1,1,9,0;r1;", 0, 24, 0, 3);
        // as PRIVET he wins behind the first month, 8 high, as HOLLY 7; as YEW and BOX he grows on with the other one
        kinds("l1;h0,3,5,0;h1,3,5,0;r1;", 0, 1, 0, 8);
        kinds("l1;h0,3,5,0;h1,3,5,0;r1;", 0, 4, 1, 9);
        kinds("l1;h0,3,5,0;h1,3,5,0;r1;", 0, 24, 1, 11);
    }

    private static void changeNothing() {
        HedgeDuel duel = Check.laid("l11;h0,1,5,3;h1,3,3,9;r2;d1;");
        duel.act(4, 3);
        duel.keep();
        duel.see(0, 2, 9);
        String before = Check.all(duel);
        for (int i = 0; i < 3; i++) {
            duel.behind(30, i);
            duel.soonest(0, i);
            duel.soonest(1, i);
            duel.hold(0, 5, i);
            duel.hold(1, 4, i);
            duel.play(3, i);
            duel.kind(1, 24, i);
        }
        Check.is("asking changes nothing", Check.all(duel).equals(before) ? 1 : 0, 1);
    }
}
