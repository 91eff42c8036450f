/** What the tests share: comparing answers, counting, and making duels from texts. */
final class Check {
    private static int passed = 0;
    private static int failed = 0;

    private Check() {
    }

    static void is(String what, long got, long due) {
        if (got == due) {
            passed++;
        } else {
            failed++;
            System.out.println(what + " answered " + got + ", due is " + due);
        }
    }

    /** Compares rows of answers, so that a test can stand on one line. */
    static void are(String what, int[] got, int... due) {
        boolean same = java.util.Arrays.equals(got, due);
        is(what + " " + java.util.Arrays.toString(got) + ", due " + java.util.Arrays.toString(due), same ? 1 : 0, 1);
    }

    static void end(String name) {
        System.out.println(name + ": " + passed + " answers as due, " + failed + " not");
        if (failed != 0 || passed == 0) {
            System.exit(1);
        }
    }

    static int put(HedgeDuel duel, String text) {
        int length = 0;
        for (int i = 0; i < text.length(); i++) {
            length = duel.write(text.charAt(i));
        }
        return length;
    }

    static HedgeDuel written(String text) {
        HedgeDuel duel = new HedgeDuel();
        put(duel, text);
        return duel;
    }

    static HedgeDuel laid(String text) {
        HedgeDuel duel = written(text);
        if (duel.lay() < 0) {
            is("lay of " + text, HedgeDuel.NO, 0);
        }
        return duel;
    }

    /** KIND, height, lean, coins, months on end of P. */
    static int[] hedge(HedgeDuel duel, int p) {
        return new int[] {duel.hedge(p, 0), duel.hedge(p, 1), duel.hedge(p, 2), duel.hedge(p, 3), duel.hedge(p, 6)};
    }

    /** All that can be asked about how things stand, for 'nothing changes'. */
    static String all(HedgeDuel duel) {
        StringBuilder all = new StringBuilder();
        for (int p = 0; p < 2; p++) {
            for (int what = 0; what < 8; what++) {
                all.append(duel.hedge(p, what)).append(' ');
            }
            all.append(duel.did(p)).append(' ').append(duel.was(p)).append(' ');
        }
        for (int m = 0; m < 12; m++) {
            all.append(duel.month(m, 0)).append(' ').append(duel.month(m, 1)).append(' ');
        }
        for (int what = 0; what < 9; what++) {
            all.append(duel.count(what)).append(' ');
        }
        return all.append(duel.fault()).toString();
    }
}
