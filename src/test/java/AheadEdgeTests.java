/** Boundary cases of promises 12 to 16: what comes. A sentence of the document to each method. */
public final class AheadEdgeTests {
    private static final int BAD = -1, NO = -2, NONE = -4;

    /** P 0 has lost behind month 0, whatever he does. */
    private static final String LOST = "l1;h0,3,0,9;h1,1,20,9;r1;";

    /** Only month 0 is dark: there who has a YEW shades who has a BOX, if it comes again. */
    private static final String WRAP = Check.CALM + "l30;s0,1;r1;w0;h0,1,0,0;h1,3,0,0;";

    public static void main(String[] args) {
        behindNumbers();
        behindNone();
        behindThirtySix();
        behindFewerIfLost();
        behindWhenLost();
        soonestNumbers();
        soonestOfOne();
        soonestOfFive();
        soonestOfSixIsNone();
        soonestNotSoMany();
        soonestIfHeLosesFirst();
        soonestOverTheYear();
        soonestWhenLost();
        holdNumbers();
        holdOfOne();
        holdOfFive();
        holdNone();
        holdBehindTheOthersLoss();
        holdOverTheYear();
        holdWhenLost();
        playNumbers();
        playOfOneToThree();
        playLowest();
        playFarApart();
        playLossAhead();
        playOverTheYear();
        playWhenLost();
        kindNumbers();
        kindOfNothing();
        kindLowest();
        kindAboveBounds();
        kindOverTheYear();
        kindStopsAtALoss();
        kindWhenLost();
        Check.end("AheadEdgeTests");
    }

    private static HedgeDuel lost() {
        HedgeDuel duel = Check.laid(LOST);
        duel.act(0, 0);
        return duel;
    }

    private static HedgeDuel passed(String text, int months) {
        HedgeDuel duel = Check.laid(text);
        Check.is("pass " + months + " of " + text, duel.pass(months), months);
        return duel;
    }

    /** 'n MONTHS (0 to 36', 'what = 0, 1, 2', 'BAD'. */
    private static void behindNumbers() {
        for (int n = -3; n <= 40; n++) {
            for (int what = -2; what <= 4; what++) {
                boolean good = n >= 0 && n <= 36 && what >= 0 && what <= 2;
                HedgeDuel duel = Check.laid(Check.CALM + "h0,1,0,0;h1,1,4,0;");
                int due = what == 0 ? n : what == 1 ? Math.min(40, 4 + n) : NONE;
                Check.is("behind " + n + " " + what, duel.behind(n, what), good ? due : BAD);
            }
        }
    }

    /** Behind 0 MONTHS all is as it stands. */
    private static void behindNone() {
        HedgeDuel duel = passed("l10;h0,3,0,9;h1,1,10,9;r3;", 2);
        Check.is("P 0's", duel.behind(0, 0), 2);
        Check.is("P 1's", duel.behind(0, 1), 12);
        Check.is("not lost", duel.behind(0, 2), NONE);
        Check.is("by one month more", duel.behind(1, 2), 0);
    }

    /** Three years, that begin in any month: month 0 comes again behind month 11. */
    private static void behindThirtySix() {
        for (int m = 0; m < 24; m++) {
            HedgeDuel duel = Check.laid(Check.CALM + "h0,1,0,0;d5;d6;");
            for (int i = 0; i < m; i++) {
                duel.pass(1);
            }
            int dry = 2 * (m / 12) + Math.max(0, Math.min(2, m % 12 - 5));
            Check.is("yew from month " + m, duel.behind(36, 0), Math.min(40, 36 + m - 6 - dry));
            Check.is("a year on, from month " + m, duel.behind(12, 0), Math.min(40, 12 + m - 2 - dry));
        }
        HedgeDuel bay = passed(Check.CALM + "h0,2,20,0;", 10);
        int[] due = {30, 30, 28, 26, 24, 26, 28, 30, 30, 30, 30, 30, 30, 30, 28, 26, 24, 26};
        for (int n = 0; n < due.length; n++) {
            Check.is("bay, " + n + " behind month 10", bay.behind(n, 0), due[n]);
        }
    }

    /** '(.. fewer, if one has LOST)'. */
    private static void behindFewerIfLost() {
        HedgeDuel duel = Check.laid("l10;h0,3,0,9;h1,1,10,9;r6;");
        for (int n = 0; n <= 36; n++) {
            Check.is("P 0's behind " + n, duel.behind(n, 0), Math.min(n, 6));
            Check.is("P 1's behind " + n, duel.behind(n, 1), 10 + Math.min(n, 6));
            Check.is("lost behind " + n, duel.behind(n, 2), n < 6 ? NONE : 0);
        }
    }

    private static void behindWhenLost() {
        HedgeDuel duel = lost();
        for (int n = 0; n <= 36; n++) {
            Check.is("lost, P 0's behind " + n, duel.behind(n, 0), 1);
            Check.is("lost, P 1's behind " + n, duel.behind(n, 1), 21);
            Check.is("lost, who behind " + n, duel.behind(n, 2), 0);
        }
        Check.is("lost, behind -1", duel.behind(-1, 0), BAD);
        Check.is("lost, behind 37", duel.behind(37, 0), BAD);
        Check.is("lost, what 3", duel.behind(0, 3), BAD);
    }

    private static void row(String what, HedgeDuel duel, int p, int... due) {
        for (int k = 0; k <= 5; k++) {
            int answer = due.length == 0 || k > due.length ? NONE : k == 0 ? due.length : due[k - 1];
            Check.is(what + ", soonest " + p + " " + k, duel.soonest(p, k), answer);
        }
    }

    /** 'k = 0', 'the k-th (1 to 5', 'BAD'. */
    private static void soonestNumbers() {
        HedgeDuel duel = Check.laid("l10;h0,1,9,0;h1,3,0,0;r5;");
        for (int p = -2; p <= 3; p++) {
            for (int k = -2; k <= 8; k++) {
                boolean good = p >= 0 && p <= 1 && k >= 0 && k <= 5;
                int due = p == 1 ? NONE : k == 0 ? 5 : 0;
                Check.is("soonest " + p + " " + k, duel.soonest(p, k), good ? due : BAD);
            }
        }
    }

    /** 'the fewest MONTHS (1 to 5)'. */
    private static void soonestOfOne() {
        row("one", Check.laid("l10;h0,1,5,0;h1,3,0,0;r1;"), 0, 0);
        row("one, leaning", Check.laid("l11;h0,1,5,0;h1,3,0,0;r1;"), 0, 4);
        row("one, the last of the coins", Check.laid("l11;h0,1,5,1;h1,3,0,0;r1;w1;"), 0, 3);
        row("one, the other P", Check.laid("l11;h1,1,5,3;h0,3,0,0;r1;w0;"), 1, 2);
        HedgeDuel six = passed("l10;h0,1,9,0;h1,3,0,0;r6;", 5);
        row("one, behind five on end", six, 0, 0);
    }

    /** 6 high, leaning 3, it goes 13: the fifth month is the first that can be it. */
    private static void soonestOfFive() {
        row("five", Check.laid("l13;h0,1,1,0;h1,3,0,0;r1;"), 0, 0, 0, 4, 4, 4);
        row("five, P 1", Check.laid("l13;h1,1,1,0;h0,3,0,0;r1;"), 1, 0, 0, 4, 4, 4);
        row("five on end", Check.laid("l10;h0,1,5,0;h1,3,0,0;r5;"), 0, 0, 0, 0, 0, 0);
    }

    private static void soonestOfSixIsNone() {
        row("six", Check.laid("l14;h0,1,1,0;h1,3,0,0;r1;"), 0);
        row("six on end", Check.laid("l10;h0,1,5,0;h1,3,0,0;r6;"), 0);
        row("never", Check.laid("l40;h0,1,0,0;h1,1,0,0;"), 1);
    }

    /** 'NONE: there are not so many'. */
    private static void soonestNotSoMany() {
        for (int need = 1; need <= 6; need++) {
            HedgeDuel duel = Check.laid("l10;h0,1,9,0;h1,3,0,0;r" + need + ";");
            for (int k = 1; k <= 5; k++) {
                Check.is("N " + need + ", the " + k + "-th", duel.soonest(0, k), need == 6 || k > need ? NONE : 0);
            }
        }
    }

    /** No MONTH goes by behind his own loss, so the other one can not lose any more. */
    private static void soonestIfHeLosesFirst() {
        row("he loses first", Check.laid("l1;h0,3,0,99;h1,1,9,0;r1;"), 0);
        // dunged in month 0 he is 6 to 7, shaded once; dunged in month 1 he is 9 to 8, and has won behind month 2
        row("shaded once", Check.laid("l1;h0,3,3,9;h1,1,6,0;r2;"), 0, 2, 2, 0);
        row("lost by it", Check.laid("l1;h0,3,3,9;h1,1,6,0;r1;"), 0);
    }

    private static void soonestOverTheYear() {
        HedgeDuel duel = passed(WRAP, 8);
        row("five, month 0 is the fifth", duel, 0, 0, 0, 0, 0, 0);
        duel.undo();
        Check.is("pass 7", duel.pass(7), 7);
        row("six, month 0 is the sixth", duel, 0);
        duel.pass(4);
        row("two ahead of month 11", duel, 0, 0, 0);
        duel.pass(1);
        row("one ahead of month 0", duel, 0, 0);
    }

    /** 'NO: one has LOST'. */
    private static void soonestWhenLost() {
        HedgeDuel duel = lost();
        for (int p = 0; p <= 1; p++) {
            for (int k = 0; k <= 5; k++) {
                Check.is("lost, soonest " + p + " " + k, duel.soonest(p, k), NO);
            }
            Check.is("lost, k -1", duel.soonest(p, -1), BAD);
            Check.is("lost, k 6", duel.soonest(p, 6), BAD);
        }
        Check.is("lost, p 2", duel.soonest(2, 0), BAD);
    }

    /** 'n (1 to 5)', 'the k-th (1 to n)', 'BAD'. */
    private static void holdNumbers() {
        HedgeDuel duel = Check.laid(Check.CALM + "h0,3,0,0;h1,3,0,0;");
        HedgeDuel none = Check.laid(LOST);
        for (int p = -2; p <= 3; p++) {
            for (int n = -2; n <= 7; n++) {
                for (int k = -2; k <= 8; k++) {
                    boolean good = p >= 0 && p <= 1 && n >= 1 && n <= 5 && k >= 1 && k <= n;
                    Check.is("hold " + p + " " + n + " " + k, duel.hold(p, n, k), good ? 0 : BAD);
                    Check.is("none, hold " + p + " " + n + " " + k, none.hold(p, n, k), !good ? BAD : p == 0 ? NONE : 0);
                }
            }
        }
    }

    private static void holds(String what, HedgeDuel duel, int p, int... due) {
        for (int k = 1; k <= due.length; k++) {
            Check.is(what + ", hold " + p + " " + due.length + " " + k, duel.hold(p, due.length, k), due[k - 1]);
        }
    }

    private static void holdOfOne() {
        holds("dung", Check.laid("l1;h0,3,5,3;h1,3,5,3;r1;"), 0, 2);
        holds("two coins are too few", Check.laid("l1;h0,3,5,2;h1,3,5,3;r1;"), 0, NONE);
        holds("the other one's too", Check.laid("l1;h0,3,5,0;h1,3,5,2;r1;"), 0, 0);
        holds("the last of the well", Check.laid("l1;h0,1,6,2;h1,3,5,1;r1;w1;"), 1, 3);
        holds("nothing in the well", Check.laid("l1;h0,1,6,2;h1,3,5,1;r1;w0;"), 1, NONE);
        holds("as high is enough", Check.laid("l1;h0,1,5,0;h1,3,3,3;r1;"), 0, 0);
        holds("short of the strip", Check.laid("l14;h0,3,5,0;h1,3,5,3;r1;"), 0, 0);
        holds("all of the strip", Check.laid("l13;h0,3,5,0;h1,3,5,3;r1;"), 0, NONE);
    }

    /** 'n (1 to 5) MONTHS in all of which the other one DUNGS', as long as he can pay it. */
    private static void holdOfFive() {
        holds("in all five", Check.laid("l1;h0,1,5,15;h1,1,5,15;r1;"), 0, 2, 2, 2, 2, 2);
        holds("in none", Check.laid("l40;h0,1,5,0;h1,1,5,0;r1;"), 1, 0, 0, 0, 0, 0);
        holds("at their bound at last", Check.laid("l1;h0,3,5,6;h1,3,5,99;r1;"), 0, 2, 2, 0, 0, 0);
        holds("a coin too few for the fifth", Check.laid("l1;h0,1,5,14;h1,1,5,15;r1;w0;"), 0, NONE, NONE, NONE, NONE, NONE);
        holds("of the two months on end one is his", Check.laid("l1;h0,1,5,12;h1,1,5,15;r2;w0;"), 0, 2, 2, 2, 2, 0);
    }

    /** 'none'. */
    private static void holdNone() {
        for (int n = 1; n <= 5; n++) {
            for (int k = 1; k <= n; k++) {
                Check.is("none of " + n, Check.laid(LOST).hold(0, n, k), NONE);
            }
        }
        HedgeDuel duel = Check.laid("l10;h0,3,0,0;h1,1,20,0;r5;");
        for (int n = 1; n <= 4; n++) {
            Check.is("not lost behind " + n, duel.hold(0, n, n), 0);
        }
        Check.is("lost behind 5", duel.hold(0, 5, 1), NONE);
        Check.is("lost behind 5, the last", duel.hold(0, 5, 5), NONE);
        duel.act(0, 0);
        Check.is("now behind 4", duel.hold(0, 4, 1), NONE);
        Check.is("but not behind 3", duel.hold(0, 3, 1), 0);
    }

    private static void holdBehindTheOthersLoss() {
        holds("he has won", Check.laid(LOST), 1, 0, 0, 0, 0, 0);
        // by dung he has won in the first month; by nothing the other one comes up behind it and wins
        holds("he has to win", Check.laid("l1;h0,3,5,3;h1,3,6,2;r1;w0;"), 0, 2, 0, 0, 0, 0);
    }

    private static void holdOverTheYear() {
        HedgeDuel duel = passed(WRAP, 8);
        holds("ahead of month 0", duel, 1, 0, 0, 0, 0);
        Check.is("with month 0", duel.hold(1, 5, 1), NONE);
        Check.is("the other one can", duel.hold(0, 5, 5), 0);
        duel.pass(4);
        Check.is("month 0 itself", duel.hold(1, 1, 1), NONE);
    }

    private static void holdWhenLost() {
        HedgeDuel duel = lost();
        for (int p = 0; p <= 1; p++) {
            for (int n = 1; n <= 5; n++) {
                for (int k = 1; k <= n; k++) {
                    Check.is("lost, hold " + p + " " + n + " " + k, duel.hold(p, n, k), NO);
                }
                Check.is("lost, k 0", duel.hold(p, n, 0), BAD);
                Check.is("lost, k too large", duel.hold(p, n, n + 1), BAD);
            }
            Check.is("lost, n 0", duel.hold(p, 0, 1), BAD);
            Check.is("lost, n 6", duel.hold(p, 6, 1), BAD);
        }
        Check.is("lost, p -1", duel.hold(-1, 1, 1), BAD);
    }

    private static void plays(String what, HedgeDuel duel, int n, int by, int first) {
        Check.is(what + ", play " + n, duel.play(n, 0), by + 200);
        Check.is(what + ", first of play " + n, duel.play(n, 1), first);
    }

    /** 'n (1 to 3)', 'what = 0, 1', 'BAD'. */
    private static void playNumbers() {
        HedgeDuel duel = Check.laid(Check.CALM + "h0,3,0,0;h1,3,0,0;");
        for (int n = -2; n <= 6; n++) {
            for (int what = -2; what <= 4; what++) {
                boolean good = n >= 1 && n <= 3 && what >= 0 && what <= 1;
                Check.is("play " + n + " " + what, duel.play(n, what), !good ? BAD : what == 0 ? 200 : 0);
            }
        }
    }

    /** One more month, one more dung that can be paid. */
    private static void playOfOneToThree() {
        HedgeDuel duel = Check.laid(Check.CALM + "w0;h0,1,5,9;h1,1,5,0;");
        plays("dung", duel, 1, 2, 2);
        plays("dung", duel, 2, 4, 2);
        plays("dung", duel, 3, 6, 2);
        HedgeDuel poor = Check.laid(Check.CALM + "w0;h0,1,5,3;h1,1,5,6;");
        plays("paid once, twice", poor, 1, 0, 2);
        plays("paid once, twice", poor, 2, -2, 0);
        plays("paid once, twice", poor, 3, -2, 0);
    }

    /** 'of several the lowest'. */
    private static void playLowest() {
        plays("nothing or leaning", Check.laid(Check.CALM + "h0,1,5,0;h1,1,5,0;"), 3, 0, 0);
        plays("all at the bound", Check.laid(Check.CALM + "h0,3,12,9;h1,3,13,9;"), 1, -1, 0);
        plays("dry", Check.laid(Check.CALM + "d0;w0;h0,1,5,9;h1,1,5,9;"), 1, 0, 0);
        plays("nothing, then dung", Check.laid(Check.CALM + "d0;w0;h0,1,5,3;h1,1,5,0;"), 2, 2, 0);
    }

    /** As far apart as hedges can be. */
    private static void playFarApart() {
        plays("40 to 0", Check.laid(Check.CALM + "h0,1,40,0;h1,2,0,0;"), 1, 40, 0);
        plays("0 to 40", Check.laid(Check.CALM + "h1,1,40,0;h0,2,0,0;"), 2, -40, 0);
        plays("40 to 0 and a loss", Check.laid("l1;r1;h0,1,40,0;h1,2,0,0;"), 3, 140, 0);
        plays("0 to 40 and a loss", Check.laid("l1;r1;h1,1,40,0;h0,2,0,0;"), 3, -140, 0);
    }

    /** '100 more, if P 1 has LOST, 100 less, if P 0 has': from the month on in which he has. */
    private static void playLossAhead() {
        for (int need = 1; need <= 4; need++) {
            for (int n = 1; n <= 3; n++) {
                int months = Math.min(n, need);
                int loss = n >= need ? 100 : 0;
                // P 1's BOX grows as the YEW does, so they stay as far apart
                plays("N " + need, Check.laid("l10;h0,1,20,0;h1,3,0,0;r" + need + ";"), n, 20 + loss, 0);
                plays("N " + need, Check.laid("l10;h1,4,20,0;h0,3,0,0;r" + need + ";"), n, -20 - months - loss, 0);
            }
        }
    }

    private static void playOverTheYear() {
        HedgeDuel duel = passed(WRAP, 10);
        plays("month 10", duel, 1, 1, 0);
        plays("to month 11", duel, 2, 2, 0);
        plays("to month 0", duel, 3, 103, 0);
        duel.pass(2);
        plays("month 0", duel, 1, 103, 0);
    }

    private static void playWhenLost() {
        HedgeDuel duel = lost();
        for (int n = 1; n <= 3; n++) {
            Check.is("lost, play " + n, duel.play(n, 0), NO);
            Check.is("lost, first of play " + n, duel.play(n, 1), NO);
            Check.is("lost, what -1", duel.play(n, -1), BAD);
            Check.is("lost, what 2", duel.play(n, 2), BAD);
        }
        Check.is("lost, play 0", duel.play(0, 0), BAD);
        Check.is("lost, play 4", duel.play(4, 0), BAD);
    }

    private static void kinds(String what, HedgeDuel duel, int p, int n, int which, int high) {
        Check.is(what + ", kind " + p + " " + n, duel.kind(p, n, 0), which);
        Check.is(what + ", high by kind " + p + " " + n, duel.kind(p, n, 1), high);
    }

    /** 'n (1 to 24)', 'what = 0, 1', 'BAD'. */
    private static void kindNumbers() {
        HedgeDuel duel = Check.laid(Check.CALM + Check.ALL_DRY + "h0,3,7,0;h1,4,7,0;");
        for (int p = -2; p <= 3; p++) {
            for (int n = -2; n <= 27; n++) {
                for (int what = -2; what <= 3; what++) {
                    boolean good = p >= 0 && p <= 1 && n >= 1 && n <= 24 && what >= 0 && what <= 1;
                    Check.is("kind " + p + " " + n + " " + what, duel.kind(p, n, what), !good ? BAD : what == 0 ? 0 : 7);
                }
            }
        }
    }

    /** A hedge of 0 that stays so: still the lowest kind, 0 high. */
    private static void kindOfNothing() {
        HedgeDuel duel = Check.laid(Check.CALM + Check.ALL_DRY + "h0,3,0,0;h1,4,0,0;");
        kinds("nothing", duel, 0, 1, 0, 0);
        kinds("nothing", duel, 1, 24, 0, 0);
    }

    /** 'of several the lowest'. */
    private static void kindLowest() {
        kinds("bay and holly", passed(Check.CALM + Check.ALL_DRY.replace("d3;", "") + "h0,4,25,0;", 3), 0, 1, 2, 27);
        kinds("yew alone", Check.laid(Check.CALM + "h0,4,36,0;"), 0, 1, 1, 37);
        kinds("privet and holly", Check.laid(Check.CALM + "h0,1,22,0;"), 0, 1, 0, 24);
        kinds("holly alone", Check.laid(Check.CALM + "h0,1,23,0;"), 0, 1, 4, 25);
        kinds("yew and holly", Check.laid(Check.CALM + "h0,1,35,0;"), 0, 1, 1, 36);
        kinds("all of them", Check.laid(Check.CALM + "h0,1,40,0;"), 0, 1, 0, 40);
    }

    /** 'as high as it is': above its bound it stays, of any kind. */
    private static void kindAboveBounds() {
        HedgeDuel duel = Check.laid(Check.CALM + "h0,1,37,0;h1,1,39,0;");
        kinds("37", duel, 0, 1, 1, 38);
        kinds("37", duel, 0, 24, 1, 40);
        kinds("39", duel, 1, 24, 1, 40);
        kinds("39, dry", Check.laid(Check.CALM + Check.ALL_DRY + "h1,1,39,0;"), 1, 24, 0, 39);
    }

    private static void kindOverTheYear() {
        HedgeDuel duel = passed(Check.CALM + "d0;h0,3,2,0;h1,3,2,0;", 11);
        int[] privets = {13, 13, 16, 19, 22, 24};
        for (int n = 1; n <= privets.length; n++) {
            kinds("month 0 is dry again", duel, n % 2, n, 0, privets[n - 1]);
        }
        kinds("a year on", duel, 0, 13, 4, 34);
        kinds("two years on", duel, 0, 24, 4, 36);
    }

    /** No MONTH goes by behind a loss, in which both do nothing neither. */
    private static void kindStopsAtALoss() {
        HedgeDuel duel = Check.laid("l14;h0,3,0,9;h1,1,10,9;r3;s2,9;s3,9;s4,9;s5,9;s6,9;s7,9;s8,9;s9,9;s10,9;s11,9;");
        kinds("two on end are no loss", duel, 1, 24, 4, 36);
        HedgeDuel box = Check.laid("l10;h0,3,0,9;h1,1,10,9;r2;");
        kinds("a loss behind two", box, 1, 24, 0, 16);
        kinds("of the one who loses", box, 0, 24, 0, 6);
    }

    private static void kindWhenLost() {
        HedgeDuel duel = lost();
        for (int p = 0; p <= 1; p++) {
            for (int n = 1; n <= 24; n++) {
                Check.is("lost, kind " + p + " " + n, duel.kind(p, n, 0), NO);
                Check.is("lost, high by kind " + p + " " + n, duel.kind(p, n, 1), NO);
            }
            Check.is("lost, n 0", duel.kind(p, 0, 0), BAD);
            Check.is("lost, n 25", duel.kind(p, 25, 0), BAD);
            Check.is("lost, what 2", duel.kind(p, 1, 2), BAD);
        }
        Check.is("lost, p 2", duel.kind(2, 1, 0), BAD);
    }
}
