/** What the tests share: comparing answers, counting, and making duels from texts. */
final class Check {
    /** Nobody is shaded on it: the sun is 9 in all months, the strip 40 long. */
    static final String CALM = "l40;r6;s0,9;s1,9;s2,9;s3,9;s4,9;s5,9;s6,9;s7,9;s8,9;s9,9;s10,9;s11,9;";
    static final String ALL_DRY = "d0;d1;d2;d3;d4;d5;d6;d7;d8;d9;d10;d11;";

    private static int passed = 0;
    private static int failed = 0;

    private Check() {
    }

    static void is(String what, long got, long due) {
        if (got == due) {
            passed++;
        } else {
            failed++;
            System.out.println(what + " answered " + got + ", due is " + due);
        }
    }

    /** Compares rows of answers, so that a test can stand on one line. */
    static void are(String what, int[] got, int... due) {
        boolean same = java.util.Arrays.equals(got, due);
        is(what + " " + java.util.Arrays.toString(got) + ", due " + java.util.Arrays.toString(due), same ? 1 : 0, 1);
    }

    static void end(String name) {
        System.out.println(name + ": " + passed + " answers as due, " + failed + " not");
        if (failed != 0 || passed == 0) {
            System.exit(1);
        }
    }

    static int put(HedgeDuel duel, String text) {
        int length = 0;
        for (int i = 0; i < text.length(); i++) {
            length = duel.write(text.charAt(i));
        }
        return length;
    }

    static HedgeDuel written(String text) {
        HedgeDuel duel = new HedgeDuel();
        put(duel, text);
        return duel;
    }

    static HedgeDuel laid(String text) {
        HedgeDuel duel = written(text);
        if (duel.lay() < 0) {
            is("lay of " + text, HedgeDuel.NO, 0);
        }
        return duel;
    }

    /** KIND, height, lean, coins, months on end of P. */
    static int[] hedge(HedgeDuel duel, int p) {
        return new int[] {duel.hedge(p, 0), duel.hedge(p, 1), duel.hedge(p, 2), duel.hedge(p, 3), duel.hedge(p, 6)};
    }

    static int[] counts(HedgeDuel duel) {
        int[] counts = new int[9];
        for (int what = 0; what < 9; what++) {
            counts[what] = duel.count(what);
        }
        return counts;
    }

    /** All that can be asked, then all that comes by undoing and going back, until nothing is left of it. */
    static String drained(HedgeDuel duel) {
        StringBuilder drained = new StringBuilder(all(duel));
        for (int i = 0; i < 10; i++) {
            drained.append(" undo ").append(duel.undo()).append(' ').append(all(duel));
        }
        for (int i = 0; i < 4; i++) {
            drained.append(" back ").append(duel.back()).append(' ').append(all(duel));
        }
        drained.append(" forget ").append(duel.forget());
        return drained.append(" lay ").append(duel.lay()).append(' ').append(all(duel)).toString();
    }

    /** All that can be asked about how things stand, for 'nothing changes'. */
    static String all(HedgeDuel duel) {
        StringBuilder all = new StringBuilder();
        for (int p = 0; p < 2; p++) {
            for (int what = 0; what < 8; what++) {
                all.append(duel.hedge(p, what)).append(' ');
            }
            all.append(duel.did(p)).append(' ').append(duel.was(p)).append(' ');
        }
        for (int m = 0; m < 12; m++) {
            all.append(duel.month(m, 0)).append(' ').append(duel.month(m, 1)).append(' ');
        }
        for (int what = 0; what < 9; what++) {
            all.append(duel.count(what)).append(' ');
        }
        return all.append(duel.fault()).toString();
    }
}
