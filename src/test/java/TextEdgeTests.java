/** Boundary cases of promises 1 to 7: the text and what is laid. A sentence of the document to each method. */
public final class TextEdgeTests {
    private static final int BAD = -1, NO = -2, FULL = -3, NONE = -4;

    public static void main(String[] args) {
        newObjectIsEmpty();
        letterTooSmallOrTooLarge();
        textFull();
        textFullOfFaults();
        wipeOfEmptyAndFull();
        wipedLettersAreGone();
        numbersTooSmallOrTooLarge();
        figuresTooFewOrTooMany();
        numbersTooFewOrTooMany();
        textCutOff();
        placeOfTheFirstFault();
        layOfNothing();
        layOfAFault();
        withoutAnyItem();
        lastOfSeveral();
        layForgetsAll();
        hedgeNumbers();
        shadowIsCut();
        shadedFromTheEdgeOn();
        shadedOnlyIfLower();
        lostFromNOn();
        sunOfTheNextMonth();
        monthNumbers();
        monthsComeAgain();
        Check.end("TextEdgeTests");
    }

    /** 'at first ..', with an empty TEXT, month 0, nothing SEEN, UNDONE, KEPT. */
    private static void newObjectIsEmpty() {
        HedgeDuel duel = new HedgeDuel();
        Check.is("new: letters", duel.count(8), 0);
        Check.is("new: no fault", duel.fault(), NONE);
        Check.is("new: nothing to lay", duel.lay(), NO);
        Check.is("new: nothing to wipe", duel.wipe(), 0);
        Check.is("new: nothing to undo", duel.undo(), NO);
        Check.is("new: nothing to go back to", duel.back(), NO);
        Check.is("new: nothing to forget", duel.forget(), 0);
        Check.is("new: month 0", duel.count(1), 0);
        HedgeDuel told = Check.laid("l10;h0,0,3,25;h1,4,5,30;s0,2;s1,3;s5,8;s6,9;s7,8;s11,2;w9;d6;d7;r2;");
        told.wipe();
        Check.is("new: as told", Check.all(duel).equals(Check.all(told)) ? 1 : 0, 1);
    }

    /** 'A letter (32 to 126, as in ASCII)'. */
    private static void letterTooSmallOrTooLarge() {
        HedgeDuel duel = new HedgeDuel();
        int due = 0;
        for (int letter = -300; letter <= 300; letter++) {
            boolean good = letter >= 32 && letter <= 126;
            due += good ? 1 : 0;
            Check.is("write " + letter, duel.write(letter), good ? due : BAD);
        }
        Check.is("letters written", duel.count(8), 95);
        int[] far = {'l' + 256, 'l' + 65536, 'l' - 256, Integer.MIN_VALUE, Integer.MAX_VALUE, Integer.MIN_VALUE + 'l'};
        for (int letter : far) {
            Check.is("write " + letter, duel.write(letter), BAD);
        }
        Check.is("none of these", duel.count(8), 95);
    }

    private static String times(int n, String item) {
        return item.repeat(n);
    }

    /** 'letters (200 at most)', 'FULL'. */
    private static void textFull() {
        HedgeDuel duel = Check.written(times(49, "w11;") + "l3;");
        Check.is("199 letters", duel.count(8), 199);
        Check.is("the 200th", duel.write('x'), 200);
        Check.is("the 201st", duel.write('x'), FULL);
        Check.is("the 202nd", duel.write(';'), FULL);
        Check.is("no letter, though it is full", duel.write(127), BAD);
        Check.is("200 letters", duel.count(8), 200);
        Check.is("a fault at the last place of all", duel.fault(), 199);
        duel.wipe();
        Check.is("not full any more", Check.put(duel, times(49, "w11;") + "l13;"), 200);
        Check.is("a full text is laid", duel.lay(), 13);
        Check.is("still full", duel.write('x'), FULL);
        Check.is("what was refused is not in it", duel.fault(), NONE);
    }

    private static void textFullOfFaults() {
        faulty(times(49, "w11;") + "l41;", 196);
        faulty(times(66, "l1;") + "l1", 198);
        faulty(times(49, "w11;") + "l3;l", 199);
        faulty(times(200, ";"), 0);
        faulty(times(200, "l"), 0);
        faulty(times(200, "1"), 0);
        faulty("l" + times(199, "1"), 0);
        faulty("h0" + times(99, ",0"), 0);
        faulty("l1;" + times(197, ","), 3);
    }

    /** 'THE TEXT is empty: how long it was.' */
    private static void wipeOfEmptyAndFull() {
        HedgeDuel duel = new HedgeDuel();
        Check.is("wipe of none", duel.wipe(), 0);
        duel.write('l');
        Check.is("wipe of one", duel.wipe(), 1);
        Check.put(duel, times(201, "l"));
        Check.is("wipe of 200", duel.wipe(), 200);
        Check.is("wipe again", duel.wipe(), 0);
        Check.is("empty", duel.count(8), 0);
        Check.is("no fault in none", duel.fault(), NONE);
        Check.is("none to lay", duel.lay(), NO);
        HedgeDuel other = Check.laid("l7;h0,1,9,9;w3;");
        other.act(3, 0);
        other.keep();
        other.see(0, 1, 12);
        Check.is("wipe of what is laid", other.wipe(), 15);
        Check.are("only the text is wiped", Check.counts(other), 7, 1, 2, NONE, 2, 1, 1, 1, 0);
        Check.are("the hedge stays", Check.hedge(other, 0), 1, 11, 0, 8, 0);
    }

    private static void wipedLettersAreGone() {
        String[][] rows = {{"l7;", "l7"}, {"l7;", "l"}, {"l17;", "l1"}, {"h0,1,2,3;", "h0,1,2"}, {"s1,2;", "s1,"}};
        for (String[] row : rows) {
            HedgeDuel duel = Check.written(row[0]);
            duel.wipe();
            Check.put(duel, row[1]);
            Check.is(row[1] + " behind a wiped " + row[0], duel.fault(), 0);
        }
        HedgeDuel duel = Check.written("w1;;");
        duel.wipe();
        Check.put(duel, "w1;");
        Check.is("a wiped fault is gone", duel.fault(), NONE);
        duel.wipe();
        Check.put(duel, "w19");
        duel.wipe();
        Check.put(duel, "w1;");
        Check.is("a wiped figure is gone", duel.fault(), NONE);
        Check.is("a wiped item is not laid", duel.lay(), 12);
        Check.is("one in the well", duel.count(2), 1);
    }

    private static void faulty(String text, int place) {
        HedgeDuel duel = Check.written(text);
        Check.is("fault of " + text, duel.fault(), place);
        int length = duel.count(0);
        boolean laid = duel.lay() != NO;
        Check.is("lay of " + text, laid ? 1 : 0, place == NONE && !text.isEmpty() ? 1 : 0);
        Check.is("strip behind lay of " + text, laid || duel.count(0) == length ? 1 : 0, 1);
    }

    private static void numbers(String ahead, String behind, int least, int most) {
        for (int n = 0; n <= 99; n++) {
            int place = n >= least && n <= most ? NONE : 0;
            faulty(ahead + n + behind, place);
            faulty(ahead + (n < 10 ? "0" : "") + n + behind, place);
            faulty("w1;" + ahead + n + behind + "w1;", place == NONE ? NONE : 3);
        }
    }

    /** 'L (1 to 40)', 'P (0, 1)', 'KIND K', 'H (0 to 40)', 'M (0 to 99)', 'month M (0 to 11)', and so on. */
    private static void numbersTooSmallOrTooLarge() {
        numbers("l", ";", 1, 40);
        numbers("h", ",0,0,0;", 0, 1);
        numbers("h0,", ",0,0;", 0, 4);
        numbers("h1,0,", ",0;", 0, 40);
        numbers("h0,0,0,", ";", 0, 99);
        numbers("s", ",1;", 0, 11);
        numbers("s0,", ";", 1, 9);
        numbers("w", ";", 0, 99);
        numbers("d", ";", 0, 11);
        numbers("r", ";", 1, 6);
    }

    /** 'numbers (one or two figures)'. */
    private static void figuresTooFewOrTooMany() {
        String[][] places = {{"l", ";"}, {"h", ",0,0,0;"}, {"h0,", ",0,0;"}, {"h0,0,", ",0;"}, {"h0,0,0,", ";"},
            {"s", ",1;"}, {"s0,", ";"}, {"w", ";"}, {"d", ";"}, {"r", ";"}};
        for (String[] place : places) {
            faulty(place[0] + "1" + place[1], NONE);
            faulty(place[0] + "01" + place[1], NONE);
            for (String number : new String[] {"", "001", "100", "000", "-1", "+1", " 1", "1 ", "1.", "0x1", "/", ":"}) {
                faulty(place[0] + number + place[1], 0);
            }
        }
    }

    /** 'each a letter, then numbers': how many go with which letter; a letter that none of them is. */
    private static void numbersTooFewOrTooMany() {
        for (int letter = 32; letter <= 126; letter++) {
            int due = letter == 'h' ? 4 : letter == 's' ? 2 : "lwdr".indexOf(letter) >= 0 ? 1 : 0;
            StringBuilder item = new StringBuilder().append((char) letter);
            faulty(item + ";", 0);
            for (int amount = 1; amount <= 6; amount++) {
                item.append(amount == 1 ? "1" : ",1");
                faulty(item + ";", amount == due ? NONE : 0);
                faulty(item + ",;", 0);
                faulty(item.toString(), 0);
            }
        }
    }

    /** 'and a ; behind the last one': every beginning of a good text. */
    private static void textCutOff() {
        String text = "l10;h0,0,3,25;s0,2;w9;d6;r2;h1,4,40,99;s11,9;";
        int item = 0;
        for (int i = 0; i <= text.length(); i++) {
            if (i > 0 && text.charAt(i - 1) == ';') {
                item = i;
            }
            faulty(text.substring(0, i), i == item ? NONE : item);
        }
    }

    /** 'the place of the first letter of the first ITEM that is not so'. */
    private static void placeOfTheFirstFault() {
        faulty("x", 0);
        faulty("w1;x", 3);
        faulty("w1;x;x;", 3);
        faulty("w12;h0,0,41,0;l0;", 4);
        faulty("w1;w2;w3;h0,0,0,0;h2,0,0,0;", 18);
        faulty("l41;l41", 0);
        faulty("w1;;", 3);
        faulty("w1;,", 3);
        faulty("w1;1;", 3);
        faulty(";w1;", 0);
        faulty(" w1;", 0);
        faulty("w1; ", 3);
    }

    /** 'a TEXT without FAULT, not empty (NO else ..)'. */
    private static void layOfNothing() {
        HedgeDuel duel = Check.laid("l9;");
        duel.wipe();
        duel.act(4, 4);
        duel.keep();
        duel.see(1, 1, 1);
        String before = Check.all(duel);
        Check.is("lay of nothing", duel.lay(), NO);
        Check.is("nothing changes", Check.all(duel).equals(before) ? 1 : 0, 1);
        Check.is("still undone", duel.undo(), 0);
        Check.is("still kept", duel.back(), 0);
    }

    private static void layOfAFault() {
        HedgeDuel duel = Check.laid("l9;");
        Check.put(duel, "l8;l7;l0;");
        Check.is("a fault behind good items", duel.fault(), 9);
        Check.is("lay of a fault", duel.lay(), NO);
        Check.is("no item of it counts", duel.count(0), 9);
        duel.wipe();
        Check.put(duel, "l8;");
        Check.is("lay of one item", duel.lay(), 8);
    }

    /** '12 without', '0, 1 high, 20 without', '5 without', '10 without', '2 without': whatever was laid before. */
    private static void withoutAnyItem() {
        for (String text : new String[] {"l30;", "h0,4,30,9;", "h1,3,7,0;", "s4,9;", "w0;", "d4;", "r6;"}) {
            HedgeDuel duel = Check.laid("l9;h0,2,8,7;h1,1,6,5;s0,1;s3,2;s4,3;s11,4;w77;r5;" + Check.ALL_DRY);
            duel.act(4, 4);
            duel.wipe();
            Check.put(duel, text);
            duel.lay();
            char letter = text.charAt(0);
            Check.is("strip by " + text, duel.count(0), letter == 'l' ? 30 : 12);
            Check.is("well by " + text, duel.count(2), letter == 'w' ? 0 : 10);
            Check.is("N by " + text, duel.count(4), letter == 'r' ? 6 : 2);
            Check.is("sun 4 by " + text, duel.month(4, 0), letter == 's' ? 9 : 5);
            Check.is("dry 4 by " + text, duel.month(4, 1), letter == 'd' ? 1 : 0);
            for (int m = 0; m < 12; m++) {
                Check.is("sun by " + text, m == 4 ? 5 : duel.month(m, 0), 5);
                Check.is("dry by " + text, m == 4 ? 0 : duel.month(m, 1), 0);
            }
            Check.are("P 0 by " + text, Check.hedge(duel, 0), text.startsWith("h0") ? new int[] {4, 30, 0, 9, 0}
                : new int[] {0, 1, 0, 20, 0});
            Check.are("P 1 by " + text, Check.hedge(duel, 1), text.startsWith("h1") ? new int[] {3, 7, 0, 0, 0}
                : new int[] {0, 1, 0, 20, 0});
        }
    }

    /** 'of several such the last one counts', 'the last one of each', 'no matter if told once more'. */
    private static void lastOfSeveral() {
        HedgeDuel duel = Check.laid("l40;r6;w99;h1,4,40,99;h0,4,40,99;s0,9;s11,9;d0;d11;d0;"
            + "h0,0,0,0;w0;s11,1;s0,1;r1;l1;h1,1,1,1;");
        Check.is("strip", duel.count(0), 1);
        Check.is("well", duel.count(2), 0);
        Check.is("N", duel.count(4), 1);
        Check.are("P 0", Check.hedge(duel, 0), 0, 0, 0, 0, 0);
        Check.are("P 1", Check.hedge(duel, 1), 1, 1, 0, 1, 0);
        Check.is("sun 0", duel.month(0, 0), 1);
        Check.is("sun 11", duel.month(11, 0), 1);
        Check.is("dry 0", duel.month(0, 1), 1);
        Check.is("dry 11", duel.month(11, 1), 1);
    }

    /** 'month 0, nothing SEEN, UNDONE, KEPT; THE TEXT stays', all of these full before. */
    private static void layForgetsAll() {
        String text = "l40;h0,1,9,50;h1,2,9,50;w50;d3;r6;";
        HedgeDuel duel = Check.laid(text);
        for (int i = 0; i < 13; i++) {
            duel.act(3, 4);
            duel.see(0, 1, 1);
            duel.keep();
        }
        duel.plant(0, 3);
        Check.are("all full", new int[] {duel.count(1), duel.count(5), duel.count(6), duel.count(7)}, 13, 6, 8, 2);
        Check.is("lay", duel.lay(), 40);
        Check.are("all empty", new int[] {duel.count(1), duel.count(5), duel.count(6), duel.count(7)}, 0, 0, 0, 0);
        Check.is("as laid once", Check.drained(duel).equals(Check.drained(Check.laid(text))) ? 1 : 0, 1);
        duel.keep();
        Check.put(duel, "l41;");
        Check.is("lay of a fault forgets nothing", duel.lay(), NO);
        Check.is("still kept", duel.count(7), 1);
    }

    /** 'P: 0, 1', 'what = 0 .. 7', 'BAD'. */
    private static void hedgeNumbers() {
        HedgeDuel duel = new HedgeDuel();
        for (int p = -2; p <= 3; p++) {
            for (int what = -2; what <= 9; what++) {
                boolean good = p >= 0 && p <= 1 && what >= 0 && what <= 7;
                Check.is("hedge " + p + " " + what, duel.hedge(p, what) == BAD ? 0 : 1, good ? 1 : 0);
            }
        }
    }

    /** 'goes as far as it is high, times 10 less S, by 3, cut'. */
    private static void shadowIsCut() {
        for (int sun = 1; sun <= 9; sun++) {
            for (int high = 0; high <= 40; high++) {
                int due = 0;
                while (3 * (due + 1) <= high * (10 - sun)) {
                    due++;
                }
                HedgeDuel duel = Check.laid("h1,1," + high + ",0;s0," + sun + ";");
                Check.is("shadow of " + high + " by sun " + sun, duel.hedge(1, 4), due);
            }
        }
    }

    /** 'goes no less far than L less what that one LEANS': 6 high, by sun 5, goes 10; the months of leaning are dry. */
    private static void shadedFromTheEdgeOn() {
        for (int length = 1; length <= 40; length++) {
            for (int p = 0; p < 2; p++) {
                HedgeDuel duel = Check.laid("l" + length + ";h" + p + ",0,5,0;h" + (1 - p) + ",0,6,0;d0;d1;d2;r6;");
                for (int lean = 0; lean <= 3; lean++) {
                    String what = "strip of " + length + ", leaning " + lean + ", P " + p;
                    Check.is(what, duel.hedge(p, 5), length - lean <= 10 ? 1 : 0);
                    Check.is(what + ", the higher one", duel.hedge(1 - p, 5), 0);
                    duel.act(p == 1 ? 4 : 0, p == 0 ? 4 : 0);
                }
            }
        }
    }

    /** 'and his own is lower than that one'. */
    private static void shadedOnlyIfLower() {
        for (int high = 0; high <= 40; high++) {
            HedgeDuel duel = Check.laid("l1;h0,1," + high + ",0;h1,1,20,0;");
            Check.is("P 0, " + high + " high", duel.hedge(0, 5), high < 20 ? 1 : 0);
            Check.is("P 1 against " + high, duel.hedge(1, 5), high > 20 ? 1 : 0);
        }
        HedgeDuel flat = Check.laid("l1;h0,1,0,0;h1,1,1,0;s0,9;");
        Check.is("no shadow at all", flat.hedge(0, 5), 0);
        Check.is("none of a hedge of nothing", flat.hedge(0, 4), 0);
    }

    /** 'who has been for N has LOST': not behind N less 1. */
    private static void lostFromNOn() {
        for (int need = 1; need <= 6; need++) {
            for (int p = 0; p < 2; p++) {
                HedgeDuel duel = Check.laid("l1;h" + p + ",3,0,0;h" + (1 - p) + ",1,20,0;r" + need + ";");
                for (int months = 0; months <= need; months++) {
                    String what = "N " + need + ", P " + p + ", months " + months;
                    Check.is(what + ": on end", duel.hedge(p, 6), months);
                    Check.is(what + ": lost", duel.hedge(p, 7), months == need ? 1 : 0);
                    Check.is(what + ": who", duel.count(3), months == need ? p : NONE);
                    Check.is(what + ": the other one", duel.hedge(1 - p, 6) + duel.hedge(1 - p, 7), 0);
                    duel.act(0, 0);
                }
                Check.is("no more on end than N", duel.hedge(p, 6), need);
                Check.is("shaded still by the next sun", duel.hedge(p, 5), 1);
            }
        }
    }

    /** 'in the month that comes next': behind month 11 that is month 0. */
    private static void sunOfTheNextMonth() {
        HedgeDuel duel = Check.laid("l30;r6;h0,3,12,0;h1,3,11,0;s0,1;s1,2;s10,8;s11,9;");
        int[] shadows = {36, 32, 20, 20, 20, 20, 20, 20, 20, 20, 8, 4};
        for (int m = 0; m < 40; m++) {
            Check.is("shadow ahead of month " + m, duel.hedge(0, 4), shadows[m % 12]);
            Check.is("shaded by the sun of month " + m, duel.hedge(1, 5), m % 12 < 2 ? 1 : 0);
            Check.is("not yet on end", duel.hedge(1, 6), m % 12 == 1 ? 1 : m % 12 == 2 ? 2 : 0);
            duel.pass(1);
        }
    }

    /** 'Of a month (0 to 99)', 'BAD'. */
    private static void monthNumbers() {
        HedgeDuel duel = new HedgeDuel();
        for (int m = -13; m <= 112; m++) {
            for (int what = -2; what <= 3; what++) {
                boolean good = m >= 0 && m <= 99 && what >= 0 && what <= 1;
                Check.is("month " + m + " " + what, duel.month(m, what) == BAD ? 0 : 1, good ? 1 : 0);
            }
        }
    }

    /** 'behind month 11 month 0 comes again'. */
    private static void monthsComeAgain() {
        HedgeDuel duel = Check.laid("s0,1;s1,2;s2,3;s3,4;s4,6;s5,7;s6,8;s7,9;s8,1;s9,2;s10,3;s11,4;d0;d11;");
        int[] suns = {1, 2, 3, 4, 6, 7, 8, 9, 1, 2, 3, 4};
        for (int m = 0; m <= 99; m++) {
            Check.is("sun of " + m, duel.month(m, 0), suns[m % 12]);
            Check.is("dry of " + m, duel.month(m, 1), m % 12 == 0 || m % 12 == 11 ? 1 : 0);
        }
    }
}
