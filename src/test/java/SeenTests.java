/** Promises 17 to 20: what was seen. */
public final class SeenTests {
    private static final int BAD = -1, NO = -2, FULL = -3;

    private static final String CALM = Check.CALM;
    private static final String LOST = "l1;h0,3,0,9;h1,1,20,9;r1;";

    public static void main(String[] args) {
        see();
        forget();
        did();
        didOfBoth();
        was();
        fromNow();
        lossAhead();
        badAndNo();
        Check.end("SeenTests");
    }

    private static void see() {
        HedgeDuel duel = new HedgeDuel();
        int[][] bad = {{-1, 1, 1}, {2, 1, 1}, {0, 0, 1}, {0, 25, 1}, {0, 1, -1}, {0, 1, 61}, {Integer.MIN_VALUE, 1, 1},
            {0, Integer.MAX_VALUE, 1}, {0, 1, Integer.MIN_VALUE}};
        for (int[] call : bad) {
            Check.is("see " + call[0] + " " + call[1] + " " + call[2], duel.see(call[0], call[1], call[2]), BAD);
        }
        Check.is("nothing seen", duel.count(5), 0);
        int[][] good = {{0, 1, 0}, {1, 24, 60}, {1, 1, 60}, {0, 24, 0}, {0, 24, 0}, {0, 24, 0}};
        for (int i = 0; i < 6; i++) {
            Check.is("see " + i, duel.see(good[i][0], good[i][1], good[i][2]), i + 1);
            Check.is("count " + i, duel.count(5), i + 1);
        }
        Check.is("a seventh", duel.see(0, 1, 1), FULL);
        Check.is("BAD ahead of FULL", duel.see(0, 1, 61), BAD);
        Check.is("six", duel.count(5), 6);
        HedgeDuel lost = Check.laid(LOST);
        lost.act(0, 0);
        Check.is("seen though one has lost", lost.see(0, 1, 1), 1);
    }

    private static void forget() {
        HedgeDuel duel = new HedgeDuel();
        Check.is("forget nothing", duel.forget(), 0);
        duel.see(0, 1, 55);
        duel.see(1, 1, 55);
        Check.is("nothing fits", duel.did(0), 0);
        Check.is("forget two", duel.forget(), 2);
        Check.is("none", duel.count(5), 0);
        Check.is("all fit", duel.did(0), 31);
        Check.is("forget again", duel.forget(), 0);
        Check.is("see anew", duel.see(1, 2, 3), 1);
    }

    private static int didAfter(String text, int p, int... sights) {
        HedgeDuel duel = Check.laid(text);
        for (int i = 0; i + 2 < sights.length; i += 3) {
            duel.see(sights[i], sights[i + 1], sights[i + 2]);
        }
        return duel.did(p);
    }

    private static int wasAfter(String text, int p, int... sights) {
        HedgeDuel duel = Check.laid(text);
        for (int i = 0; i + 2 < sights.length; i += 3) {
            duel.see(sights[i], sights[i + 1], sights[i + 2]);
        }
        return duel.was(p);
    }

    /** Bits: 1 nothing, 2 clip, 4 dung, 8 water, 16 lean. */
    private static void did() {
        String yews = CALM + "h0,1,9,9;h1,1,9,9;";
        Check.is("nothing seen", didAfter(yews, 0), 31);
        Check.is("nothing or lean", didAfter(yews, 0, 0, 1, 10), 17);
        Check.is("clip", didAfter(yews, 0, 0, 1, 8), 2);
        Check.is("dung", didAfter(yews, 0, 0, 1, 12), 4);
        Check.is("water", didAfter(yews, 0, 0, 1, 11), 8);
        Check.is("none of them", didAfter(yews, 0, 0, 1, 9), 0);
        Check.is("only the next month", didAfter(yews, 0, 0, 2, 13), 4);
        Check.is("24 months", didAfter(yews, 0, 0, 24, 35), 4);
        Check.is("all that is seen", didAfter(yews, 0, 0, 1, 12, 0, 2, 13, 0, 24, 35), 4);
        Check.is("one is not so", didAfter(yews, 0, 0, 1, 12, 0, 2, 13, 0, 24, 34), 0);
        Check.is("can not be paid", didAfter(CALM + "h0,1,9,0;", 0, 0, 1, 10), 29);
        Check.is("water alone in a dry month", didAfter(yews + "d0;", 0, 0, 1, 11), 8);
        Check.is("the rest in a dry month", didAfter(yews + "d0;", 0, 0, 1, 9), 21);
        Check.is("at the bound", didAfter(CALM + "h0,3,9,9;", 0, 0, 1, 10), 29);
        Check.is("behind the bound", didAfter(CALM + "h0,3,9,9;", 0, 0, 3, 10), 31);
    }

    private static void didOfBoth() {
        String yews = CALM + "h0,1,9,9;h1,1,4,9;";
        Check.is("P 1", didAfter(yews, 1, 1, 1, 7), 4);
        Check.is("P 0 does nothing then", didAfter(yews, 1, 1, 1, 7, 0, 1, 10), 4);
        Check.is("P 0 did something", didAfter(yews, 1, 1, 1, 7, 0, 1, 12), 0);
        Check.is("not he", didAfter(yews, 0, 1, 1, 7), 0);
        Check.is("the other one grew as ever", didAfter(yews, 0, 1, 1, 5), 31);
    }

    /** Bits: 1 PRIVET, 2 YEW, 4 BAY, 8 BOX, 16 HOLLY. */
    private static void was() {
        String text = CALM + "h0,3,9,9;h1,3,5,9;";
        Check.is("nothing seen", wasAfter(text, 0), 31);
        Check.is("privet", wasAfter(text, 0, 0, 1, 12), 1);
        Check.is("yew or box", wasAfter(text, 0, 0, 1, 10), 10);
        Check.is("yew", wasAfter(text, 0, 0, 1, 10, 0, 2, 11), 2);
        Check.is("box", wasAfter(text, 0, 0, 2, 10), 8);
        Check.is("bay", wasAfter(text, 0, 0, 1, 7), 4);
        Check.is("holly", wasAfter(text, 0, 0, 1, 11), 16);
        Check.is("none", wasAfter(text, 0, 0, 1, 8), 0);
        Check.is("privet behind 24", wasAfter(text, 0, 0, 24, 24), 1);
        Check.is("dry", wasAfter(text + "d0;", 0, 0, 1, 9), 31);
        Check.is("P 1", wasAfter(text, 1, 1, 1, 8), 1);
        Check.is("P 0's stays a box", wasAfter(text, 1, 1, 1, 8, 0, 1, 10), 1);
        Check.is("P 0's is no privet", wasAfter(text, 1, 1, 1, 8, 0, 1, 12), 0);
    }

    private static void fromNow() {
        HedgeDuel duel = Check.laid(CALM + "h0,1,9,9;h1,1,9,9;");
        duel.see(0, 2, 12);
        Check.is("by water", duel.did(0), 8);
        duel.act(0, 0);
        Check.is("from now on", duel.did(0), 17);
        duel.act(0, 0);
        Check.is("from later on", duel.did(0), 0);
        duel.undo();
        Check.is("undone", duel.did(0), 17);
        Check.is("was, from now on", duel.was(0), 2);
    }

    /** P 0 has lost behind month 0, no month more goes by, so the hedges stay. */
    private static void lossAhead() {
        String text = "l10;h0,3,0,9;h1,1,20,9;r1;";
        Check.is("as high as at the loss", didAfter(text, 0, 1, 9, 21), 31);
        Check.is("not as it would grow", didAfter(text, 0, 1, 2, 22), 0);
        Check.is("of any kind", wasAfter(text, 0, 1, 24, 21), 31);
    }

    private static void badAndNo() {
        HedgeDuel duel = Check.laid(LOST);
        int[] bad = {-1, 2, Integer.MIN_VALUE, Integer.MAX_VALUE};
        for (int p : bad) {
            Check.is("did " + p, duel.did(p), BAD);
            Check.is("was " + p, duel.was(p), BAD);
        }
        duel.act(0, 0);
        for (int p = 0; p < 2; p++) {
            Check.is("lost, did", duel.did(p), NO);
            Check.is("lost, was", duel.was(p), NO);
        }
        Check.is("BAD ahead of NO", duel.did(2), BAD);
        Check.is("BAD ahead of NO too", duel.was(2), BAD);
        duel.undo();
        String before = Check.all(duel);
        duel.did(0);
        duel.was(1);
        Check.is("asking changes nothing", Check.all(duel).equals(before) ? 1 : 0, 1);
    }
}
