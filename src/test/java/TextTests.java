/** Promises 1 to 7: a new object, the text, what is laid. */
public final class TextTests {
    private static final int BAD = -1, NO = -2, FULL = -3, NONE = -4;

    public static void main(String[] args) {
        newObject();
        write();
        wipe();
        fault();
        faultPlaces();
        lay();
        layAnew();
        lastOneCounts();
        hedge();
        hedgeShaded();
        month();
        Check.end("TextTests");
    }

    private static void newObject() {
        HedgeDuel duel = new HedgeDuel();
        int[] counts = {10, 0, 9, NONE, 2, 0, 0, 0, 0};
        for (int what = 0; what < counts.length; what++) {
            Check.is("new count " + what, duel.count(what), counts[what]);
        }
        Check.are("new hedge 0", Check.hedge(duel, 0), 0, 3, 0, 25, 0);
        Check.are("new hedge 1", Check.hedge(duel, 1), 4, 5, 0, 30, 0);
        int[] suns = {2, 3, 5, 5, 5, 8, 9, 8, 5, 5, 5, 2};
        for (int m = 0; m < suns.length; m++) {
            Check.is("new sun " + m, duel.month(m, 0), suns[m]);
            Check.is("new dry " + m, duel.month(m, 1), m == 6 || m == 7 ? 1 : 0);
        }
        Check.is("new fault", duel.fault(), NONE);
        Check.is("new undo", duel.undo(), NO);
        Check.is("new back", duel.back(), NO);
        Check.is("new forget", duel.forget(), 0);
        HedgeDuel other = new HedgeDuel();
        duel.act(2, 2);
        duel.see(0, 1, 1);
        Check.is("another object stays", other.hedge(0, 1), 3);
        Check.is("another object sees nothing", other.count(5), 0);
    }

    private static void write() {
        HedgeDuel duel = new HedgeDuel();
        int[] bad = {31, 127, 0, -1, 255, Integer.MIN_VALUE, Integer.MAX_VALUE};
        for (int letter : bad) {
            Check.is("write " + letter, duel.write(letter), BAD);
        }
        Check.is("nothing written", duel.count(8), 0);
        Check.is("write 32", duel.write(32), 1);
        Check.is("write 126", duel.write(126), 2);
        for (int i = 3; i <= 200; i++) {
            Check.is("write " + i, duel.write('l'), i);
        }
        Check.is("write 201", duel.write('l'), FULL);
        Check.is("BAD ahead of FULL", duel.write(31), BAD);
        Check.is("200 letters", duel.count(8), 200);
        Check.is("wipe of all", duel.wipe(), 200);
        StringBuilder longest = new StringBuilder();
        for (int i = 0; i < 49; i++) {
            longest.append("l11;");
        }
        Check.is("200 letters in items", Check.put(duel, longest.append("l39;").toString()), 200);
        Check.is("fault of 200", duel.fault(), NONE);
        Check.is("lay of 200", duel.lay(), 39);
    }

    private static void wipe() {
        Check.is("wipe of none", new HedgeDuel().wipe(), 0);
        HedgeDuel duel = Check.written("l7;");
        duel.lay();
        Check.is("wipe", duel.wipe(), 3);
        Check.is("wiped", duel.count(8), 0);
        Check.is("wiped again", duel.wipe(), 0);
        Check.is("the strip stays", duel.count(0), 7);
        Check.is("write anew", duel.write('d'), 1);
        Check.is("the old letters are gone", duel.fault(), 0);
    }

    private static void faulty(String text, int place) {
        HedgeDuel duel = Check.written(text);
        Check.is("fault of " + text, duel.fault(), place);
        Check.is("lay of " + text, duel.lay() == NO ? 1 : 0, place == NONE && !text.isEmpty() ? 0 : 1);
    }

    private static void fault() {
        String[] good = {"", "l1;", "l40;", "l01;", "h0,0,0,0;", "h1,4,40,99;", "h01,04,09,00;", "s0,1;", "s11,9;",
            "s00,09;", "w0;", "w99;", "w00;", "d0;", "d11;", "d3;d3;", "r1;", "r6;", "l3;l4;", "w1;d1;r1;s1,1;"};
        for (String text : good) {
            faulty(text, NONE);
        }
        String[] bad = {"l", "l;", "l0;", "l00;", "l41;", "l99;", "l1", "l012;", "l 1;", "l1 ;", "l-1;", "l1,;", "l1,2;",
            "L1;", "h;", "h0;", "h0,0,0;", "h0,0,0,0", "h0,0,0,0,0;", "h2,0,0,0;", "h0,5,0,0;", "h0,0,41,0;",
            "h0,0,0,100;", "h0,,0,0;", "h,0,0,0;", "s0;", "s0,0;", "s12,1;", "s0,10;", "s0,1,1;", "w;", "w100;", "w1,1;",
            "d12;", "d;", "d1,1;", "r0;", "r7;", "r1,1;", "r;", ";", ",", "1;", "x1;", " ", "q;", "p1;", "t1;", "~~~"};
        for (String text : bad) {
            faulty(text, 0);
        }
    }

    private static void faultPlaces() {
        faulty("l5;x", 3);
        faulty("l5;;", 3);
        faulty("l5; w1;", 3);
        faulty("h0,1,2,3;w5;l41;", 12);
        faulty("l41;h0,1,2,3;w5;", 0);
        faulty("l1;d12;r9;", 3);
        faulty("w1;w2;w3;w4", 9);
        faulty("l5;d1", 3);
        faulty("l5;d", 3);
        faulty("s1,2;s12,2;l3;", 5);
    }

    private static void lay() {
        HedgeDuel duel = new HedgeDuel();
        Check.is("lay of nothing", duel.lay(), NO);
        Check.is("nothing is laid", duel.count(0), 10);
        Check.put(duel, "w8;");
        Check.is("lay", duel.lay(), 12);
        Check.are("hedge without", Check.hedge(duel, 0), 0, 1, 0, 20, 0);
        Check.are("other hedge without", Check.hedge(duel, 1), 0, 1, 0, 20, 0);
        for (int m = 0; m < 12; m++) {
            Check.is("sun without", duel.month(m, 0), 5);
            Check.is("dry without", duel.month(m, 1), 0);
        }
        Check.is("the well", duel.count(2), 8);
        Check.is("N without", duel.count(4), 2);
        Check.is("the text stays", duel.count(8), 3);
        Check.is("well without", Check.laid("l5;").count(2), 10);
        duel.act(3, 3);
        duel.write('!');
        String before = Check.all(duel);
        Check.is("lay of a fault", duel.lay(), NO);
        Check.is("nothing changes", Check.all(duel).equals(before) ? 1 : 0, 1);
    }

    private static void layAnew() {
        HedgeDuel duel = Check.laid("l20;h0,1,6,9;h1,2,3,8;w4;d2;s4,7;r5;");
        duel.act(4, 3);
        duel.see(0, 1, 2);
        duel.keep();
        duel.pass(3);
        Check.is("lay anew", duel.lay(), 20);
        Check.is("month 0", duel.count(1), 0);
        Check.is("nothing seen", duel.count(5), 0);
        Check.is("nothing undone", duel.count(6), 0);
        Check.is("nothing kept", duel.count(7), 0);
        Check.is("undo", duel.undo(), NO);
        Check.is("back", duel.back(), NO);
        Check.is("well full", duel.count(2), 4);
        Check.are("hedge anew", Check.hedge(duel, 0), 1, 6, 0, 9, 0);
        Check.are("other hedge anew", Check.hedge(duel, 1), 2, 3, 0, 8, 0);
        duel.wipe();
        Check.put(duel, "l2;");
        Check.is("another text", duel.lay(), 2);
        Check.is("old dry month is gone", duel.month(2, 1), 0);
        Check.is("old sun is gone", duel.month(4, 0), 5);
        Check.is("old N is gone", duel.count(4), 2);
        Check.is("old well is gone", duel.count(2), 10);
        Check.are("old hedge is gone", Check.hedge(duel, 0), 0, 1, 0, 20, 0);
        HedgeDuel lost = Check.laid("l1;h0,0,1,1;h1,0,20,9;r1;");
        lost.act(0, 0);
        Check.is("lost", lost.hedge(0, 7), 1);
        lost.lay();
        Check.is("lost no more", lost.count(3), NONE);
        Check.is("months on end anew", lost.hedge(0, 6), 0);
    }

    private static void lastOneCounts() {
        HedgeDuel duel = Check.laid("l3;l8;h0,1,2,3;h0,4,5,6;w1;w2;s3,1;s3,9;r1;r4;d5;d5;h1,3,7,9;");
        Check.is("strip", duel.count(0), 8);
        Check.are("hedge", Check.hedge(duel, 0), 4, 5, 0, 6, 0);
        Check.are("other hedge", Check.hedge(duel, 1), 3, 7, 0, 9, 0);
        Check.is("well", duel.count(2), 2);
        Check.is("sun", duel.month(3, 0), 9);
        Check.is("N", duel.count(4), 4);
        Check.is("dry", duel.month(5, 1), 1);
        Check.is("the month by it is not", duel.month(4, 1), 0);
    }

    private static void hedge() {
        HedgeDuel duel = Check.laid("l30;h0,2,40,7;h1,3,0,99;s0,1;s1,8;r1;");
        int[] own = {2, 40, 0, 7, 120, 0, 0, 0};
        int[] other = {3, 0, 0, 99, 0, 1, 0, 0};
        for (int what = 0; what < 8; what++) {
            Check.is("hedge 0 " + what, duel.hedge(0, what), own[what]);
            Check.is("hedge 1 " + what, duel.hedge(1, what), other[what]);
        }
        int[][] bad = {{-1, 0}, {2, 0}, {0, -1}, {0, 8}, {1, 8}, {2, 9}, {Integer.MIN_VALUE, 0}, {0, Integer.MAX_VALUE}};
        for (int[] call : bad) {
            Check.is("hedge " + call[0] + " " + call[1], duel.hedge(call[0], call[1]), BAD);
        }
        Check.is("act", duel.act(4, 0), 2);
        Check.is("lean", duel.hedge(0, 2), 1);
        Check.is("lean of the other", duel.hedge(1, 2), 0);
        Check.is("shadow by the next sun, cut", duel.hedge(0, 4), 26);
        Check.is("shaded by the next sun", duel.hedge(1, 5), 0);
        Check.is("months on end", duel.hedge(1, 6), 1);
        Check.is("has lost", duel.hedge(1, 7), 1);
        Check.is("has not lost", duel.hedge(0, 7), 0);
    }

    /** Sun 5: a hedge of 6 has a shadow of 10. */
    private static void hedgeShaded() {
        Check.is("as far as the strip", Check.laid("l10;h0,0,5,0;h1,0,6,0;").hedge(0, 5), 1);
        Check.is("less far", Check.laid("l11;h0,0,5,0;h1,0,6,0;").hedge(0, 5), 0);
        Check.is("as high", Check.laid("l10;h0,0,6,0;h1,0,6,0;").hedge(0, 5), 0);
        Check.is("as high, the other one", Check.laid("l10;h0,0,6,0;h1,0,6,0;").hedge(1, 5), 0);
        Check.is("the higher one", Check.laid("l1;h0,0,5,0;h1,0,6,0;").hedge(1, 5), 0);
        Check.is("the other one", Check.laid("l10;h0,0,6,0;h1,0,5,0;").hedge(1, 5), 1);
        HedgeDuel duel = Check.laid("l11;h0,3,5,0;h1,1,5,0;r6;");
        Check.is("leaning", duel.act(0, 4), 0);
        Check.is("as high still", duel.hedge(0, 1), 6);
        duel = Check.laid("l12;h0,3,10,0;h1,1,10,0;d0;s1,7;r6;");
        duel.act(0, 4);
        duel.act(1, 0);
        Check.is("shadow behind leaning", duel.hedge(1, 4), 18);
        duel = Check.laid("l14;h0,3,10,0;h1,1,11,0;s0,9;s1,7;s2,7;r6;");
        Check.is("12 high, not far enough", duel.act(0, 0), 0);
        Check.is("13 high: 13 of 14", duel.act(0, 0), 0);
        duel.undo();
        Check.is("13 of 14, leaning", duel.act(0, 4), 1);
        duel.undo();
        Check.is("his own leaning is no help", duel.act(4, 0), 0);
    }

    private static void month() {
        HedgeDuel duel = Check.laid("s0,1;s11,9;s5,2;d0;d11;");
        int[] suns = {1, 5, 5, 5, 5, 2, 5, 5, 5, 5, 5, 9};
        for (int m = 0; m < 100; m++) {
            Check.is("sun " + m, duel.month(m, 0), suns[m % 12]);
            Check.is("dry " + m, duel.month(m, 1), m % 12 == 0 || m % 12 == 11 ? 1 : 0);
        }
        int[][] bad = {{-1, 0}, {100, 0}, {0, -1}, {0, 2}, {100, 2}, {Integer.MIN_VALUE, 1}};
        for (int[] call : bad) {
            Check.is("month " + call[0] + " " + call[1], duel.month(call[0], call[1]), BAD);
        }
        duel.pass(7);
        Check.is("of the year, not from now", duel.month(5, 0), 2);
    }
}
