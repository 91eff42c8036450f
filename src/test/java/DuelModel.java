import java.math.BigInteger;
import java.util.ArrayDeque;
import java.util.ArrayList;
import java.util.Deque;
import java.util.List;
import java.util.regex.Matcher;
import java.util.regex.Pattern;

/**
 * The document once more, as plainly as the Java library lets it be told: states that never change, searches that try
 * all there is. ModelTests compares HedgeDuel with it.
 */
final class DuelModel {
    static final int BAD = -1, NO = -2, FULL = -3, NONE = -4;
    private static final Pattern ITEM = Pattern.compile("([a-z])([0-9]{1,2}(?:,[0-9]{1,2})*);");

    record Plant(int kind, int high, int lean, int coins, int dark) {
        Plant as(int newKind) {
            return new Plant(newKind, high, lean, coins, dark);
        }

        Plant high(int newHigh) {
            return new Plant(kind, newHigh, lean, coins, dark);
        }

        Plant dark(boolean shaded) {
            return new Plant(kind, high, lean, coins, shaded ? dark + 1 : 0);
        }
    }

    record State(Plant zero, Plant one, int well, int month) {
        Plant of(int p) {
            return p == 0 ? zero : one;
        }

        State with(int p, Plant plant) {
            return p == 0 ? new State(plant, one, well, month) : new State(zero, plant, well, month);
        }
    }

    record Sight(int p, int t, int h) {
    }

    private String text = "";
    private int length;
    private int need;
    private int[] sun;
    private boolean[] dry;
    private State now;
    private final Deque<State> past = new ArrayDeque<>();
    private final Deque<State> kept = new ArrayDeque<>();
    private final List<Sight> seen = new ArrayList<>();

    DuelModel() {
        laying("l10;h0,0,3,25;h1,4,5,30;s0,2;s1,3;s5,8;s6,9;s7,8;s11,2;w9;d6;d7;r2;");
    }

    private static boolean in(int n, int least, int most) {
        return least <= n && n <= most;
    }

    // ---- the text

    private static boolean allowed(char letter, int[] n) {
        return switch (letter) {
            case 'l' -> n.length == 1 && in(n[0], 1, 40);
            case 'h' -> n.length == 4 && in(n[0], 0, 1) && in(n[1], 0, 4) && in(n[2], 0, 40);
            case 's' -> n.length == 2 && in(n[0], 0, 11) && in(n[1], 1, 9);
            case 'w' -> n.length == 1;
            case 'd' -> n.length == 1 && in(n[0], 0, 11);
            case 'r' -> n.length == 1 && in(n[0], 1, 6);
            default -> false;
        };
    }

    private static int[] numbers(String list) {
        String[] parts = list.split(",");
        int[] numbers = new int[parts.length];
        for (int i = 0; i < parts.length; i++) {
            numbers[i] = Integer.parseInt(parts[i]);
        }
        return numbers;
    }

    private static int firstFault(String text) {
        Matcher item = ITEM.matcher(text);
        int place = 0;
        while (place < text.length()) {
            item.region(place, text.length());
            if (!item.lookingAt() || !allowed(item.group(1).charAt(0), numbers(item.group(2)))) {
                return place;
            }
            place = item.end();
        }
        return NONE;
    }

    private void laying(String items) {
        length = 12;
        need = 2;
        sun = new int[] {5, 5, 5, 5, 5, 5, 5, 5, 5, 5, 5, 5};
        dry = new boolean[12];
        now = new State(new Plant(0, 1, 0, 20, 0), new Plant(0, 1, 0, 20, 0), 10, 0);
        Matcher item = ITEM.matcher(items);
        while (item.find()) {
            int[] n = numbers(item.group(2));
            switch (item.group(1).charAt(0)) {
                case 'l' -> length = n[0];
                case 'h' -> now = now.with(n[0], new Plant(n[1], n[2], 0, n[3], 0));
                case 's' -> sun[n[0]] = n[1];
                case 'w' -> now = new State(now.zero, now.one, n[0], 0);
                case 'd' -> dry[n[0]] = true;
                default -> need = n[0];
            }
        }
        past.clear();
        kept.clear();
        seen.clear();
    }

    int write(int letter) {
        if (!in(letter, 32, 126)) {
            return BAD;
        }
        if (text.length() == 200) {
            return FULL;
        }
        text += (char) letter;
        return text.length();
    }

    int wipe() {
        int were = text.length();
        text = "";
        return were;
    }

    int fault() {
        return firstFault(text);
    }

    int lay() {
        if (text.isEmpty() || firstFault(text) != NONE) {
            return NO;
        }
        laying(text);
        return length;
    }

    // ---- one month

    private int lost(State s) {
        return s.zero.dark >= need ? 0 : s.one.dark >= need ? 1 : NONE;
    }

    private boolean over() {
        return lost(now) != NONE;
    }

    private static int shadow(Plant plant, int sunHigh) {
        return plant.high * (10 - sunHigh) / 3;
    }

    private boolean shaded(Plant own, Plant other, int month) {
        return shadow(other, sun[month % 12]) >= length - other.lean && own.high < other.high;
    }

    private static final int[] BOUNDS = {24, 40, 30, 10, 36};

    private static Plant grown(Plant plant, int month, int more, boolean stays) {
        if (stays || plant.high > BOUNDS[plant.kind]) {
            return plant;
        }
        int m = month % 12;
        int usual = switch (plant.kind) {
            case 0 -> 3;
            case 1, 3 -> 1;
            case 2 -> m == 0 || m == 1 || m == 11 ? -2 : 2;
            default -> 2;
        };
        return plant.high(Math.max(0, Math.min(BOUNDS[plant.kind], plant.high + usual + more)));
    }

    /** The month gone by; dryness is told by the argument, null asks the text. */
    private State next(State s, int a, int b, Boolean isDry) {
        if (lost(s) != NONE) {
            return s;
        }
        boolean drought = isDry == null ? dry[s.month % 12] : isDry;
        int well = s.well;
        Plant[] plants = {s.zero, s.one};
        int[] deeds = {a, b};
        int[] more = {0, 0};
        boolean[] wet = {false, false};
        for (int p = 0; p < 2; p++) {
            Plant x = plants[p];
            if (deeds[p] == 1) {
                plants[p] = x.high(x.high < 2 ? 0 : x.high - 2);
            } else if (deeds[p] == 2 && x.coins >= 3) {
                boolean small = x.high < 3;
                more[p] = small ? 0 : 2;
                plants[p] = new Plant(x.kind, small && x.high > 0 ? x.high - 1 : x.high, x.lean, x.coins - 3, x.dark);
            } else if (deeds[p] == 3 && x.coins >= 1 && well >= 1) {
                wet[p] = true;
                more[p] = 1;
                well--;
                plants[p] = new Plant(x.kind, x.high, x.lean, x.coins - 1, x.dark);
            } else if (deeds[p] == 4 && x.lean < 3) {
                plants[p] = new Plant(x.kind, x.high, x.lean + 1, x.coins, x.dark);
            }
        }
        for (int p = 0; p < 2; p++) {
            plants[p] = grown(plants[p], s.month, more[p], drought && !wet[p]);
        }
        return new State(plants[0].dark(shaded(plants[0], plants[1], s.month)),
            plants[1].dark(shaded(plants[1], plants[0], s.month)), well, s.month + 1);
    }

    private State idle(State s, int n) {
        return n == 0 ? s : idle(next(s, 0, 0, null), n - 1);
    }

    private void remember() {
        past.addLast(now);
        if (past.size() > 8) {
            past.removeFirst();
        }
    }

    int hedge(int p, int what) {
        if (!in(p, 0, 1) || !in(what, 0, 7)) {
            return BAD;
        }
        Plant own = now.of(p);
        int[] answers = {own.kind, own.high, own.lean, own.coins, shadow(own, sun[now.month % 12]),
            shaded(own, now.of(1 - p), now.month) ? 1 : 0, own.dark, lost(now) == p ? 1 : 0};
        return answers[what];
    }

    int month(int m, int what) {
        if (!in(m, 0, 99) || !in(what, 0, 1)) {
            return BAD;
        }
        return what == 0 ? sun[m % 12] : dry[m % 12] ? 1 : 0;
    }

    int act(int a, int b) {
        if (!in(a, 0, 4) || !in(b, 0, 4)) {
            return BAD;
        }
        if (over()) {
            return NO;
        }
        remember();
        int month = now.month;
        now = next(now, a, b, null);
        return (shaded(now.zero, now.one, month) ? 1 : 0) + (shaded(now.one, now.zero, month) ? 2 : 0);
    }

    int pass(int n) {
        if (!in(n, 1, 24)) {
            return BAD;
        }
        if (over()) {
            return NO;
        }
        remember();
        now = idle(now, n);
        return now.month;
    }

    int plant(int p, int kind) {
        if (!in(p, 0, 1) || !in(kind, 0, 4)) {
            return BAD;
        }
        Plant own = now.of(p);
        if (over() || own.coins < 5) {
            return NO;
        }
        remember();
        now = now.with(p, new Plant(kind, 1, 0, own.coins - 5, own.dark));
        return own.coins - 5;
    }

    int undo() {
        if (past.isEmpty()) {
            return NO;
        }
        now = past.removeLast();
        return past.size();
    }

    // ---- what comes

    private int told(State s, int what) {
        return what == 0 ? s.zero.high : what == 1 ? s.one.high : lost(s);
    }

    int behind(int n, int what) {
        return in(n, 0, 36) && in(what, 0, 2) ? told(idle(now, n), what) : BAD;
    }

    /** The rows of n deeds in order: the k-th deed of row number r. */
    private static int deed(int r, int n, int k) {
        return r / (int) Math.round(Math.pow(5, n - k)) % 5;
    }

    private State row(int p, int r, int n, int other) {
        State s = now;
        for (int k = 1; k <= n; k++) {
            int own = deed(r, n, k);
            s = next(s, p == 0 ? own : other, p == 0 ? other : own, null);
        }
        return s;
    }

    int soonest(int p, int k) {
        if (!in(p, 0, 1) || !in(k, 0, 5)) {
            return BAD;
        }
        if (over()) {
            return NO;
        }
        for (int n = 1; n <= 5; n++) {
            for (int r = 0; r < Math.pow(5, n); r++) {
                if (lost(row(p, r, n, 0)) == 1 - p) {
                    return k == 0 ? n : k <= n ? deed(r, n, k) : NONE;
                }
            }
        }
        return NONE;
    }

    int hold(int p, int n, int k) {
        if (!in(p, 0, 1) || !in(n, 1, 5) || !in(k, 1, n)) {
            return BAD;
        }
        if (over()) {
            return NO;
        }
        for (int r = 0; r < Math.pow(5, n); r++) {
            if (lost(row(p, r, n, 2)) != p) {
                return deed(r, n, k);
            }
        }
        return NONE;
    }

    private int lead(State s, int n) {
        if (n == 0) {
            int loser = lost(s);
            return s.zero.high - s.one.high + (loser == 1 ? 100 : loser == 0 ? -100 : 0);
        }
        int best = Integer.MIN_VALUE;
        for (int a = 0; a < 5; a++) {
            best = Math.max(best, answered(s, n, a));
        }
        return best;
    }

    private int answered(State s, int n, int a) {
        int worst = Integer.MAX_VALUE;
        for (int b = 0; b < 5; b++) {
            worst = Math.min(worst, lead(next(s, a, b, null), n - 1));
        }
        return worst;
    }

    int play(int n, int what) {
        if (!in(n, 1, 3) || !in(what, 0, 1)) {
            return BAD;
        }
        if (over()) {
            return NO;
        }
        int lead = lead(now, n);
        int first = 0;
        while (answered(now, n, first) != lead) {
            first++;
        }
        return what == 0 ? lead + 200 : first;
    }

    int kind(int p, int n, int what) {
        if (!in(p, 0, 1) || !in(n, 1, 24) || !in(what, 0, 1)) {
            return BAD;
        }
        if (over()) {
            return NO;
        }
        int best = 4;
        int[] high = new int[5];
        for (int kind = 4; kind >= 0; kind--) {
            high[kind] = idle(now.with(p, now.of(p).as(kind)), n).of(p).high;
            best = high[kind] >= high[best] ? kind : best;
        }
        return what == 0 ? best : high[best];
    }

    // ---- what was seen

    int see(int p, int t, int h) {
        if (!in(p, 0, 1) || !in(t, 1, 24) || !in(h, 0, 60)) {
            return BAD;
        }
        if (seen.size() == 6) {
            return FULL;
        }
        seen.add(new Sight(p, t, h));
        return seen.size();
    }

    int forget() {
        int were = seen.size();
        seen.clear();
        return were;
    }

    private boolean allSeen(State start, int a, int b) {
        return seen.stream().allMatch(x -> idle(next(start, a, b, null), x.t - 1).of(x.p).high == x.h);
    }

    int did(int p) {
        if (!in(p, 0, 1)) {
            return BAD;
        }
        if (over()) {
            return NO;
        }
        int bits = 0;
        for (int d = 0; d < 5; d++) {
            bits += allSeen(now, p == 0 ? d : 0, p == 1 ? d : 0) ? 1 << d : 0;
        }
        return bits;
    }

    int was(int p) {
        if (!in(p, 0, 1)) {
            return BAD;
        }
        if (over()) {
            return NO;
        }
        int bits = 0;
        for (int kind = 0; kind < 5; kind++) {
            bits += allSeen(now.with(p, now.of(p).as(kind)), 0, 0) ? 1 << kind : 0;
        }
        return bits;
    }

    // ---- droughts, years

    /** Of 10 to the n-th. */
    private long chances(State s, int p, int n, int x) {
        if (n == 0) {
            return lost(s) == p ? 1 : 0;
        }
        return x * chances(next(s, 0, 0, true), p, n - 1, x) + (10 - x) * chances(next(s, 0, 0, false), p, n - 1, x);
    }

    int drought(int p, int n, int x, int part) {
        if (!in(p, 0, 1) || !in(n, 0, 6) || !in(x, 0, 10) || !in(part, 0, 1)) {
            return BAD;
        }
        BigInteger above = BigInteger.valueOf(chances(now, p, n, x));
        BigInteger below = BigInteger.TEN.pow(n);
        return (part == 0 ? above : below).divide(above.gcd(below)).intValue();
    }

    int year(int z, int n, int what) {
        if (!in(z, 0, 9999) || !in(n, 1, 40) || !in(what, 0, 2)) {
            return BAD;
        }
        State s = now;
        for (int k = 0; k < n; k++) {
            BigInteger x = BigInteger.valueOf(7919).multiply(BigInteger.valueOf(z)).add(BigInteger.valueOf(6151L * k + 1));
            int draw = x.pow(2).mod(BigInteger.valueOf(65521)).intValue() / 2;
            s = next(s, draw % 5, draw / 8 % 5, null);
        }
        return told(s, what);
    }

    int keep() {
        if (kept.size() == 2) {
            return FULL;
        }
        kept.addLast(now);
        return kept.size();
    }

    int back() {
        if (kept.isEmpty()) {
            return NO;
        }
        now = kept.removeLast();
        past.clear();
        return kept.size();
    }

    int count(int what) {
        int[] counts = {length, now.month, now.well, lost(now), need, seen.size(), past.size(), kept.size(), text.length()};
        return in(what, 0, 8) ? counts[what] : BAD;
    }
}
