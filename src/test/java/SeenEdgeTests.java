/** Boundary cases of promises 17 to 20: what was seen. A sentence of the document to each method. */
public final class SeenEdgeTests {
    private static final int BAD = -1, NO = -2, FULL = -3;

    /** Two YEWS, 9 and 4 high, that grow by 1 a month. */
    private static final String YEWS = Check.CALM + "h0,1,9,9;h1,1,4,9;";
    private static final String LOST = "l1;h0,3,0,9;h1,1,20,9;r1;";

    public static void main(String[] args) {
        seeNumbers();
        seenSixAtMost();
        seenTwiceCountsTwice();
        forgetOfNoneAndAll();
        didNumbers();
        didOfNothingSeen();
        didOfTheFirstAndTheLastMonth();
        didOfHeightsThatCanNotBe();
        didOnlyInTheNextMonth();
        didUnpaidIsAsNothing();
        didOverTheYear();
        didFromNowOn();
        didBehindALossAhead();
        didWhenLost();
        wasNumbers();
        wasOfNothingSeen();
        wasOfOneMonthAndOfAll();
        wasAtBounds();
        wasOverTheYear();
        wasWhenLost();
        seenStaysWhenLost();
        Check.end("SeenEdgeTests");
    }

    private static HedgeDuel seeing(String text, int... sights) {
        HedgeDuel duel = Check.laid(text);
        for (int i = 0; i + 2 < sights.length; i += 3) {
            Check.is("see in " + text, duel.see(sights[i], sights[i + 1], sights[i + 2]), i / 3 + 1);
        }
        return duel;
    }

    private static HedgeDuel lost() {
        HedgeDuel duel = Check.laid(LOST);
        duel.act(0, 0);
        return duel;
    }

    /** 'h (0 to 60) high behind t (1 to 24) MONTHS', 'BAD'. */
    private static void seeNumbers() {
        HedgeDuel duel = new HedgeDuel();
        for (int p = -2; p <= 3; p++) {
            for (int t = -2; t <= 27; t++) {
                for (int h = -2; h <= 63; h++) {
                    boolean good = p >= 0 && p <= 1 && t >= 1 && t <= 24 && h >= 0 && h <= 60;
                    Check.is("see " + p + " " + t + " " + h, duel.see(p, t, h), good ? 1 : BAD);
                    Check.is("forget " + p + " " + t + " " + h, duel.forget(), good ? 1 : 0);
                }
            }
        }
    }

    /** 'SEEN (6 at most)', 'FULL'. */
    private static void seenSixAtMost() {
        HedgeDuel duel = Check.laid(YEWS);
        for (int i = 1; i <= 6; i++) {
            Check.is("see " + i, duel.see(0, i, 9 + i), i);
        }
        Check.is("all six are so", duel.did(0), 17);
        Check.is("the seventh", duel.see(0, 1, 55), FULL);
        Check.is("the eighth", duel.see(1, 24, 0), FULL);
        Check.is("six", duel.count(5), 6);
        Check.is("the seventh is not looked at", duel.did(0), 17);
        Check.is("no sight, though it is full", duel.see(2, 1, 1), BAD);
        Check.is("no month", duel.see(0, 25, 1), BAD);
        Check.is("no height", duel.see(0, 1, 61), BAD);
        Check.is("forget six", duel.forget(), 6);
        Check.is("not full any more", duel.see(0, 1, 55), 1);
        Check.is("only what is seen anew", duel.did(0), 0);
        for (int i = 0; i < 6; i++) {
            HedgeDuel one = Check.laid(YEWS);
            for (int k = 0; k < 6; k++) {
                one.see(k % 2, 3, k == i ? 60 : k % 2 == 0 ? 12 : 7);
            }
            Check.is("the one that is not so is number " + i, one.did(0), 0);
        }
    }

    private static void seenTwiceCountsTwice() {
        HedgeDuel duel = seeing(YEWS, 0, 1, 10, 0, 1, 10);
        Check.is("twice the same", duel.did(0), 17);
        Check.is("another height in the same month", duel.see(0, 1, 11), 3);
        Check.is("can not be", duel.did(0), 0);
    }

    /** 'Nothing is SEEN: how many were.' */
    private static void forgetOfNoneAndAll() {
        HedgeDuel duel = new HedgeDuel();
        for (int n = 0; n <= 6; n++) {
            for (int i = 0; i < n; i++) {
                duel.see(0, 1, 60);
            }
            Check.is("none can be", duel.did(0), n == 0 ? 31 : 0);
            Check.is("forget " + n, duel.forget(), n);
            Check.is("forgotten", duel.count(5), 0);
            Check.is("all can be", duel.did(0), 31);
        }
        Check.is("forget when lost", lost().forget(), 0);
    }

    /** 'P: 0, 1', 'BAD'. */
    private static void didNumbers() {
        HedgeDuel duel = Check.laid(YEWS);
        for (int p = -3; p <= 4; p++) {
            Check.is("did " + p, duel.did(p), p == 0 || p == 1 ? 31 : BAD);
        }
    }

    private static void didOfNothingSeen() {
        Check.is("P 0", Check.laid(YEWS).did(0), 31);
        Check.is("P 1", Check.laid(YEWS).did(1), 31);
        Check.is("nothing can be paid", Check.laid(Check.CALM + "h0,1,0,0;w0;").did(0), 31);
    }

    /** 't (1 to 24)'. */
    private static void didOfTheFirstAndTheLastMonth() {
        int[] changes = {0, -2, 2, 1, 0};
        for (int t = 1; t <= 24; t++) {
            for (int deed = 0; deed <= 4; deed++) {
                int due = deed == 0 || deed == 4 ? 17 : 1 << deed;
                Check.is("P 0, deed " + deed + ", t " + t, seeing(YEWS, 0, t, 9 + t + changes[deed]).did(0), due);
                Check.is("P 1, deed " + deed + ", t " + t, seeing(YEWS, 1, t, 4 + t + changes[deed]).did(1), due);
            }
            Check.is("1 higher, t " + t, seeing(YEWS, 0, t, 9 + t + 3).did(0), 0);
            Check.is("1 lower, t " + t, seeing(YEWS, 0, t, 9 + t - 1).did(0), 0);
        }
    }

    /** 'h (0 to 60)': 0 can be, above 40 nothing is. */
    private static void didOfHeightsThatCanNotBe() {
        Check.is("0 high", seeing(Check.CALM + "d0;h0,1,2,9;", 0, 1, 0).did(0), 2);
        Check.is("0 high still", seeing(Check.CALM + Check.ALL_DRY + "h0,1,1,9;", 0, 24, 0).did(0), 2 + 4);
        Check.is("40 high", seeing(Check.CALM + "h0,1,40,9;", 0, 24, 40).did(0), 31);
        for (int h = 41; h <= 60; h++) {
            Check.is(h + " high", seeing(Check.CALM + "h0,1,40,9;", 0, 1, h).did(0), 0);
        }
    }

    /** 'did he that in the next MONTH, and nothing else was done by both in all'. */
    private static void didOnlyInTheNextMonth() {
        Check.is("once", seeing(YEWS, 0, 1, 12, 0, 2, 13).did(0), 4);
        Check.is("not twice", seeing(YEWS, 0, 1, 12, 0, 2, 15).did(0), 0);
        Check.is("not later", seeing(YEWS, 0, 1, 10, 0, 2, 13).did(0), 0);
        Check.is("not the other one too", seeing(YEWS, 0, 1, 12, 1, 1, 7).did(0), 0);
        Check.is("the other one's stays as it would be", seeing(YEWS, 0, 1, 12, 1, 24, 28).did(0), 4);
    }

    /** 'What can not be paid, had, done is as nothing.' */
    private static void didUnpaidIsAsNothing() {
        for (int coins = 0; coins <= 3; coins++) {
            int due = 1 + 16 + (coins < 3 ? 4 : 0) + (coins < 1 ? 8 : 0);
            Check.is("by " + coins, seeing(Check.CALM + "h0,1,9," + coins + ";", 0, 1, 10).did(0), due);
        }
        Check.is("an empty well", seeing(Check.CALM + "w0;h0,1,9,9;", 0, 1, 10).did(0), 1 + 8 + 16);
        Check.is("the last of it", seeing(Check.CALM + "w1;h0,1,9,9;", 0, 1, 11).did(0), 8);
    }

    /** Month 0 is dry: it comes again behind month 11. */
    private static void didOverTheYear() {
        HedgeDuel duel = Check.laid(Check.CALM + "d0;h0,1,5,9;");
        duel.pass(11);
        duel.see(0, 1, 16);
        duel.see(0, 2, 16);
        duel.see(0, 3, 17);
        duel.see(0, 13, 27);
        duel.see(0, 14, 27);
        duel.see(0, 24, 37);
        Check.is("from month 11", duel.did(0), 17);
        Check.is("as a yew", duel.was(0), 2);
        duel.pass(1);
        Check.is("from month 0", duel.did(0), 0);
    }

    /** '(now: as it stands when that is asked)'. */
    private static void didFromNowOn() {
        HedgeDuel duel = seeing(YEWS, 0, 1, 12);
        Check.is("dung", duel.did(0), 4);
        duel.act(0, 0);
        Check.is("water", duel.did(0), 8);
        duel.act(0, 0);
        Check.is("nothing, lean", duel.did(0), 17);
        duel.act(0, 0);
        Check.is("too high", duel.did(0), 0);
        duel.act(0, 0);
        Check.is("clip", duel.did(0), 2);
        for (int i = 3; i >= 0; i--) {
            duel.undo();
        }
        Check.is("dung again", duel.did(0), 4);
    }

    /** Behind a loss no MONTH goes by, the hedges stay as they are then. */
    private static void didBehindALossAhead() {
        String text = "l10;h0,3,0,0;h1,1,10,9;r2;";
        for (int t = 1; t <= 24; t++) {
            Check.is("P 1's, t " + t, seeing(text, 1, t, 10 + Math.min(t, 2)).did(0), 31);
            Check.is("P 0's, t " + t, seeing(text, 0, t, Math.min(t, 2)).did(0), 31);
            Check.is("as any kind, t " + t, seeing(text, 1, t, 10 + Math.min(t, 2)).was(0), 31);
        }
        // a holly 5 high has won by its lean in the next month and stays so; else it has won when it is 7 high
        String near = "l9;h0,4,3,0;h1,3,1,0;r1;w0;";
        Check.is("won by leaning", seeing(near, 0, 24, 5).did(0), 16);
        Check.is("won later", seeing(near, 0, 24, 7).did(0), 1 + 2 + 4 + 8);
        Check.is("won a month later", seeing(near, 0, 2, 7).did(0), 1 + 4 + 8);
        Check.is("won two months later", seeing(near, 0, 2, 5, 0, 3, 7).did(0), 2);
    }

    /** 'NO: one has LOST'. */
    private static void didWhenLost() {
        HedgeDuel duel = lost();
        for (int p = -2; p <= 3; p++) {
            Check.is("lost, did " + p, duel.did(p), p == 0 || p == 1 ? NO : BAD);
        }
        duel.undo();
        Check.is("undone", duel.did(0), 31);
    }

    private static void wasNumbers() {
        HedgeDuel duel = Check.laid(YEWS);
        for (int p = -3; p <= 4; p++) {
            Check.is("was " + p, duel.was(p), p == 0 || p == 1 ? 31 : BAD);
        }
    }

    private static void wasOfNothingSeen() {
        Check.is("nothing seen, P 0", Check.laid(YEWS).was(0), 31);
        Check.is("only the other one seen", seeing(YEWS, 1, 9, 13).was(0), 31);
        Check.is("the other one can not be so", seeing(YEWS, 1, 9, 14).was(0), 0);
    }

    /** From 5 high, all but month 2 of a year: what each KIND comes to behind t MONTHS. */
    private static void wasOfOneMonthAndOfAll() {
        String text = Check.CALM + "h0,3,5,9;h1,1,5,9;";
        Check.is("8 behind 1", seeing(text, 0, 1, 8).was(0), 1);
        Check.is("6 behind 1", seeing(text, 0, 1, 6).was(0), 2 + 8);
        Check.is("3 behind 1", seeing(text, 0, 1, 3).was(0), 4);
        Check.is("7 behind 1", seeing(text, 0, 1, 7).was(0), 16);
        Check.is("5 behind 1", seeing(text, 0, 1, 5).was(0), 0);
        Check.is("24 behind 24", seeing(text, 0, 24, 24).was(0), 1);
        Check.is("29 behind 24", seeing(text, 0, 24, 29).was(0), 2);
        Check.is("10 behind 24", seeing(text, 0, 24, 10).was(0), 8);
        Check.is("36 behind 24", seeing(text, 0, 24, 36).was(0), 16);
        Check.is("29 behind 24, P 1", seeing(text, 1, 24, 29).was(1), 2);
        Check.is("P 1's of any kind", seeing(text, 0, 24, 10).was(1), 31);
    }

    /** 'one that is above it already stays as it is', whatever KIND it was. */
    private static void wasAtBounds() {
        Check.is("37 stays", seeing(Check.CALM + "h0,1,37,9;", 0, 1, 37).was(0), 1 + 4 + 8 + 16);
        Check.is("36 stays", seeing(Check.CALM + "h0,1,36,9;", 0, 1, 36).was(0), 1 + 4 + 8 + 16);
        Check.is("40 stays", seeing(Check.CALM + "h0,1,40,9;", 0, 24, 40).was(0), 31);
        Check.is("24 in frost", seeing(Check.CALM + "h0,1,24,9;", 0, 1, 24).was(0), 1 + 8);
        Check.is("30 in frost", seeing(Check.CALM + "h0,1,30,9;", 0, 1, 28).was(0), 4);
        Check.is("31 in frost", seeing(Check.CALM + "h0,1,31,9;", 0, 1, 31).was(0), 1 + 4 + 8);
        Check.is("0 in frost", seeing(Check.CALM + "h0,1,0,9;", 0, 1, 0, 0, 2, 0).was(0), 4);
    }

    private static void wasOverTheYear() {
        HedgeDuel duel = Check.laid(Check.CALM + "h0,3,10,0;");
        duel.pass(10);
        duel.see(0, 1, 12);
        Check.is("bay or holly", duel.was(0), 4 + 16);
        duel.see(0, 2, 10);
        duel.see(0, 3, 8);
        duel.see(0, 4, 6);
        duel.see(0, 5, 8);
        Check.is("bay, by the frost of months 11, 0, 1", duel.was(0), 4);
    }

    private static void wasWhenLost() {
        HedgeDuel duel = lost();
        for (int p = -2; p <= 3; p++) {
            Check.is("lost, was " + p, duel.was(p), p == 0 || p == 1 ? NO : BAD);
        }
        duel.undo();
        Check.is("undone", duel.was(0), 31);
    }

    /** Seeing and forgetting go on when one has LOST: no NO is told of them. */
    private static void seenStaysWhenLost() {
        HedgeDuel duel = lost();
        for (int i = 1; i <= 6; i++) {
            Check.is("lost, see " + i, duel.see(0, 1, 1), i);
        }
        Check.is("lost, the seventh", duel.see(0, 1, 1), FULL);
        Check.is("lost, see BAD", duel.see(0, 0, 1), BAD);
        Check.is("lost, forget", duel.forget(), 6);
    }
}
