import java.util.Random;

/** Promises 1 to 25: many runs of calls by draws, each answer compared with the model's. */
public final class ModelTests {
    private static final int RUNS = 500, CALLS = 120;

    private final Random random;
    private final HedgeDuel duel = new HedgeDuel();
    private final DuelModel model = new DuelModel();
    private final StringBuilder calls = new StringBuilder();

    private ModelTests(int run) {
        random = new Random(run);
    }

    public static void main(String[] args) {
        for (int run = 0; run < RUNS; run++) {
            new ModelTests(run).run();
        }
        Check.end("ModelTests");
    }

    private void run() {
        if (random.nextInt(8) != 0) {
            text();
        }
        for (int i = 0; i < CALLS; i++) {
            step();
        }
        for (int what = 0; what < 9; what++) {
            same("count", duel.count(what), model.count(what), what);
        }
    }

    private void same(String name, int got, int due, int... args) {
        calls.append(name).append(java.util.Arrays.toString(args)).append(' ');
        if (got != due) {
            Check.is(calls.toString(), got, due);
        } else {
            Check.is(name, got, due);
        }
    }

    /** From 0 to most, now and then just outside. */
    private int number(int least, int most) {
        int draw = random.nextInt(40);
        if (draw == 0) {
            return least - 1;
        }
        return draw == 1 ? most + 1 : least + random.nextInt(most - least + 1);
    }

    private String item() {
        int high = random.nextInt(3) == 0 ? 41 : 14;
        switch (random.nextInt(10)) {
            case 0: return "l" + (1 + random.nextInt(random.nextBoolean() ? 40 : 15)) + ";";
            case 1: case 2: case 3:
                return "h" + random.nextInt(2) + "," + random.nextInt(5) + "," + random.nextInt(high) + ","
                    + random.nextInt(random.nextBoolean() ? 8 : 40) + ";";
            case 4: case 5: return "s" + random.nextInt(12) + "," + (1 + random.nextInt(9)) + ";";
            case 6: return "w" + random.nextInt(random.nextBoolean() ? 4 : 100) + ";";
            case 7: case 8: return "d" + random.nextInt(12) + ";";
            default: return "r" + (1 + random.nextInt(6)) + ";";
        }
    }

    private void text() {
        same("wipe", duel.wipe(), model.wipe());
        StringBuilder text = new StringBuilder();
        for (int i = random.nextInt(24); i >= 0; i--) {
            text.append(item());
        }
        if (random.nextInt(4) == 0) {
            text.setCharAt(random.nextInt(text.length()), "0123456789,;lhswdr x".charAt(random.nextInt(20)));
        }
        for (int i = 0; i < text.length(); i++) {
            same("write", duel.write(text.charAt(i)), model.write(text.charAt(i)), text.charAt(i));
        }
        same("fault", duel.fault(), model.fault());
        same("lay", duel.lay(), model.lay());
    }

    private void step() {
        int draw = random.nextInt(100);
        if (draw < 30) {
            change(draw);
        } else if (draw < 60) {
            ask(draw % 10);
        } else if (draw < 62) {
            search();
        } else if (draw < 99) {
            sight(draw % 10);
        } else if (random.nextInt(6) == 0) {
            text();
        }
    }

    private void change(int draw) {
        if (draw < 17) {
            int a = number(0, 4);
            int b = number(0, 4);
            same("act", duel.act(a, b), model.act(a, b), a, b);
        } else if (draw < 19) {
            int n = number(1, 24);
            same("pass", duel.pass(n), model.pass(n), n);
        } else if (draw < 22) {
            int p = number(0, 1);
            int kind = number(0, 4);
            same("plant", duel.plant(p, kind), model.plant(p, kind), p, kind);
        } else if (draw < 26) {
            same("undo", duel.undo(), model.undo());
        } else if (draw < 28) {
            same("keep", duel.keep(), model.keep());
        } else if (draw < 29) {
            same("back", duel.back(), model.back());
        } else {
            int letter = random.nextInt(140);
            same("write", duel.write(letter), model.write(letter), letter);
            same("fault", duel.fault(), model.fault());
        }
    }

    private void ask(int draw) {
        int p = number(0, 1);
        int n = number(0, 36);
        int what = number(0, 2);
        if (draw < 5) {
            int of = number(0, 7);
            same("hedge", duel.hedge(p, of), model.hedge(p, of), p, of);
        } else if (draw < 6) {
            int m = number(0, 99);
            same("month", duel.month(m, what), model.month(m, what), m, what);
        } else if (draw < 7) {
            same("behind", duel.behind(n, what), model.behind(n, what), n, what);
        } else if (draw < 8) {
            int months = number(1, 24);
            same("kind", duel.kind(p, months, what), model.kind(p, months, what), p, months, what);
        } else {
            int of = number(0, 8);
            same("count", duel.count(of), model.count(of), of);
        }
    }

    private void search() {
        int p = number(0, 1);
        int k = number(0, 5);
        int n = number(1, 5);
        int what = number(0, 1);
        same("soonest", duel.soonest(p, k), model.soonest(p, k), p, k);
        same("hold", duel.hold(p, n, k), model.hold(p, n, k), p, n, k);
        int months = random.nextInt(10) == 0 ? 3 : number(1, 2);
        same("play", duel.play(months, what), model.play(months, what), months, what);
    }

    private void sight(int draw) {
        int p = number(0, 1);
        int t = number(1, random.nextBoolean() ? 24 : 4);
        if (draw < 2) {
            int h = random.nextInt(4) == 0 ? number(0, 60) : model.behind(t, Math.max(0, Math.min(1, p)));
            same("see", duel.see(p, t, h), model.see(p, t, h), p, t, h);
        } else if (draw < 3) {
            same("forget", duel.forget(), model.forget());
        } else if (draw < 5) {
            same("did", duel.did(p), model.did(p), p);
        } else if (draw < 7) {
            same("was", duel.was(p), model.was(p), p);
        } else if (draw < 9) {
            int n = number(0, 6);
            int x = number(0, 10);
            int part = number(0, 1);
            same("drought", duel.drought(p, n, x, part), model.drought(p, n, x, part), p, n, x, part);
        } else {
            int z = number(0, 9999);
            int n = number(1, 40);
            int what = number(0, 2);
            same("year", duel.year(z, n, what), model.year(z, n, what), z, n, what);
        }
    }
}
