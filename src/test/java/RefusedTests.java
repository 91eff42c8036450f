import java.util.ArrayList;
import java.util.LinkedHashMap;
import java.util.List;
import java.util.Map;
import java.util.function.Supplier;

/**
 * 'Of several the first in this order, whatever the order at a call; nothing changes then.' A refused call is made on
 * one of two duels that are alike; then all that can be asked, undone and gone back to must be the same of both.
 */
public final class RefusedTests {
    private static final int BAD = -1, NO = -2, FULL = -3, NONE = -4;

    private interface Call {
        int on(HedgeDuel duel);
    }

    private final String name;
    private final Supplier<HedgeDuel> state;

    private RefusedTests(String name, Supplier<HedgeDuel> state) {
        this.name = name;
        this.state = state;
    }

    public static void main(String[] args) {
        Map<String, Supplier<HedgeDuel>> states = new LinkedHashMap<>();
        states.put("new", HedgeDuel::new);
        states.put("full", RefusedTests::full);
        states.put("lost", RefusedTests::lost);
        states.forEach((name, state) -> new RefusedTests(name, state).bad());
        new RefusedTests("new", HedgeDuel::new).refusedWhenNew();
        new RefusedTests("full", RefusedTests::full).refusedWhenFull();
        new RefusedTests("lost", RefusedTests::lost).refusedWhenLost();
        new RefusedTests("a fault", RefusedTests::faulty).refused("lay", HedgeDuel::lay, NO);
        new RefusedTests("poor", RefusedTests::poor).refusedWhenPoor();
        states.put("near", RefusedTests::near);
        states.put("poor", RefusedTests::poor);
        states.forEach((name, state) -> new RefusedTests(name, state).askedOnly());
        states.forEach((name, state) -> new RefusedTests(name, state).askedInAnyOrder());
        Check.end("RefusedTests");
    }

    /** As much as can be of all: letters, SEEN, UNDONE, KEPT. */
    private static HedgeDuel full() {
        HedgeDuel duel = Check.laid("l23;r6;w9;d3;h0,1,9,20;h1,2,12,30;" + "s1,7;".repeat(32) + "l40;");
        Check.put(duel, "!");
        for (int i = 0; i < 12; i++) {
            duel.act(i % 5, (i + 2) % 5);
            duel.see(i % 2, 1 + i, 10 + i);
            duel.keep();
        }
        duel.plant(1, 3);
        Check.are("full", Check.counts(duel), 40, 12, duel.count(2), NONE, 6, 6, 8, 2, 199);
        duel.write('!');
        return duel;
    }

    private static HedgeDuel lost() {
        HedgeDuel duel = Check.laid("l1;h0,3,0,30;h1,1,20,30;r2;");
        duel.keep();
        duel.see(1, 2, 22);
        duel.act(3, 2);
        duel.act(4, 4);
        Check.is("lost", duel.count(3), 0);
        return duel;
    }

    private static HedgeDuel faulty() {
        HedgeDuel duel = full();
        duel.wipe();
        Check.put(duel, "l5;w1;d12;");
        return duel;
    }

    /** Nobody can plant, nor be made to lose within five months. */
    private static HedgeDuel poor() {
        HedgeDuel duel = Check.laid("l40;h0,1,3,4;h1,1,3,0;");
        duel.act(0, 0);
        return duel;
    }

    /** Either can lose within a few months. */
    private static HedgeDuel near() {
        HedgeDuel duel = Check.laid("l9;h0,1,5,9;h1,3,4,9;r2;w3;d1;s3,8;");
        duel.act(0, 2);
        duel.see(0, 2, 7);
        return duel;
    }

    private void refused(String call, Call refused, int due) {
        HedgeDuel one = state.get();
        HedgeDuel other = state.get();
        Check.is(name + ": " + call, refused.on(one), due);
        Check.is(name + ": " + call + " once more", refused.on(one), due);
        boolean same = Check.drained(one).equals(Check.drained(other));
        Check.is(name + ": " + call + " changes nothing", same ? 1 : 0, 1);
    }

    /** BAD comes first in every state, with each number too small and too large by 1 and by far. */
    private void bad() {
        for (int far : new int[] {1, 1000, Integer.MAX_VALUE}) {
            // below the least, which is 0 or 1 here, and above the most; no sum of them wraps around
            int less = far == Integer.MAX_VALUE ? Integer.MIN_VALUE : -far;
            badOfChanges(less, far);
            badOfLookingAhead(less, far);
            badOfTheRest(less, far);
        }
    }

    private static int above(int most, int far) {
        return far > Integer.MAX_VALUE - most ? Integer.MAX_VALUE : most + far;
    }

    private void badOfChanges(int less, int far) {
        for (int letter : new int[] {31, less, above(126, far)}) {
            refused("write " + letter, duel -> duel.write(letter), BAD);
        }
        for (int deed : new int[] {less, above(4, far)}) {
            refused("act " + deed + " 0", duel -> duel.act(deed, 0), BAD);
            refused("act 0 " + deed, duel -> duel.act(0, deed), BAD);
            refused("act twice " + deed, duel -> duel.act(deed, deed), BAD);
            refused("plant 0 " + deed, duel -> duel.plant(0, deed), BAD);
        }
        for (int n : new int[] {0, less, above(24, far)}) {
            refused("pass " + n, duel -> duel.pass(n), BAD);
        }
        for (int p : new int[] {less, above(1, far)}) {
            refused("plant " + p + " 0", duel -> duel.plant(p, 0), BAD);
            refused("see " + p + " 1 1", duel -> duel.see(p, 1, 1), BAD);
        }
        for (int t : new int[] {0, less, above(24, far)}) {
            refused("see 0 " + t + " 1", duel -> duel.see(0, t, 1), BAD);
        }
        for (int h : new int[] {less, above(60, far)}) {
            refused("see 0 1 " + h, duel -> duel.see(0, 1, h), BAD);
        }
    }

    private void badOfLookingAhead(int less, int far) {
        for (int p : new int[] {less, above(1, far)}) {
            refused("soonest " + p + " 0", duel -> duel.soonest(p, 0), BAD);
            refused("hold " + p + " 1 1", duel -> duel.hold(p, 1, 1), BAD);
            refused("kind " + p + " 1 0", duel -> duel.kind(p, 1, 0), BAD);
            refused("play 1 " + p, duel -> duel.play(1, p), BAD);
            refused("kind 0 1 " + p, duel -> duel.kind(0, 1, p), BAD);
        }
        for (int n : new int[] {less, above(36, far)}) {
            refused("behind " + n + " 0", duel -> duel.behind(n, 0), BAD);
        }
        for (int what : new int[] {less, above(2, far)}) {
            refused("behind 0 " + what, duel -> duel.behind(0, what), BAD);
        }
        for (int k : new int[] {less, above(5, far)}) {
            refused("soonest 0 " + k, duel -> duel.soonest(0, k), BAD);
            refused("hold 0 " + k + " 1", duel -> duel.hold(0, k, 1), BAD);
            refused("hold 0 " + k + " " + k, duel -> duel.hold(0, k, k), BAD);
        }
        for (int n = 1; n <= 5; n++) {
            int months = n;
            for (int k : new int[] {0, less, above(n, far)}) {
                refused("hold 1 " + n + " " + k, duel -> duel.hold(1, months, k), BAD);
            }
        }
        refused("hold 0 0 0", duel -> duel.hold(0, 0, 0), BAD);
        for (int n : new int[] {0, less, above(3, far)}) {
            refused("play " + n + " 0", duel -> duel.play(n, 0), BAD);
        }
        for (int n : new int[] {0, less, above(24, far)}) {
            refused("kind 0 " + n + " 0", duel -> duel.kind(0, n, 0), BAD);
        }
    }

    private void badOfTheRest(int less, int far) {
        for (int p : new int[] {less, above(1, far)}) {
            refused("hedge " + p + " 0", duel -> duel.hedge(p, 0), BAD);
            refused("did " + p, duel -> duel.did(p), BAD);
            refused("was " + p, duel -> duel.was(p), BAD);
            refused("drought " + p + " 1 1 0", duel -> duel.drought(p, 1, 1, 0), BAD);
            refused("drought 0 1 1 " + p, duel -> duel.drought(0, 1, 1, p), BAD);
            refused("month 0 " + p, duel -> duel.month(0, p), BAD);
        }
        for (int what : new int[] {less, above(7, far)}) {
            refused("hedge 0 " + what, duel -> duel.hedge(0, what), BAD);
        }
        for (int m : new int[] {less, above(99, far)}) {
            refused("month " + m + " 0", duel -> duel.month(m, 0), BAD);
        }
        for (int n : new int[] {less, above(6, far)}) {
            refused("drought 0 " + n + " 1 0", duel -> duel.drought(0, n, 1, 0), BAD);
        }
        for (int x : new int[] {less, above(10, far)}) {
            refused("drought 0 1 " + x + " 0", duel -> duel.drought(0, 1, x, 0), BAD);
        }
        for (int z : new int[] {less, above(9999, far)}) {
            refused("year " + z + " 1 0", duel -> duel.year(z, 1, 0), BAD);
        }
        for (int n : new int[] {0, less, above(40, far)}) {
            refused("year 0 " + n + " 0", duel -> duel.year(0, n, 0), BAD);
        }
        for (int what : new int[] {less, above(2, far)}) {
            refused("year 0 1 " + what, duel -> duel.year(0, 1, what), BAD);
        }
        for (int what : new int[] {less, above(8, far)}) {
            refused("count " + what, duel -> duel.count(what), BAD);
        }
    }

    private void refusedWhenNew() {
        refused("lay", HedgeDuel::lay, NO);
        refused("undo", HedgeDuel::undo, NO);
        refused("back", HedgeDuel::back, NO);
        refused("fault", HedgeDuel::fault, NONE);
        refused("wipe of nothing", HedgeDuel::wipe, 0);
        refused("forget of nothing", HedgeDuel::forget, 0);
    }

    private void refusedWhenFull() {
        refused("write", duel -> duel.write(';'), FULL);
        refused("see", duel -> duel.see(0, 1, 1), FULL);
        refused("keep", HedgeDuel::keep, FULL);
        refused("lay", HedgeDuel::lay, NO);
    }

    private void refusedWhenLost() {
        refused("act", duel -> duel.act(0, 0), NO);
        refused("pass", duel -> duel.pass(1), NO);
        refused("plant of the one", duel -> duel.plant(0, 0), NO);
        refused("plant of the other one", duel -> duel.plant(1, 4), NO);
        for (int p = 0; p <= 1; p++) {
            int side = p;
            refused("soonest, how many", duel -> duel.soonest(side, 0), NO);
            refused("soonest, the fifth", duel -> duel.soonest(side, 5), NO);
            refused("hold", duel -> duel.hold(side, 5, 5), NO);
            refused("kind", duel -> duel.kind(side, 24, 1), NO);
            refused("did", duel -> duel.did(side), NO);
            refused("was", duel -> duel.was(side), NO);
        }
        refused("play", duel -> duel.play(3, 0), NO);
        refused("play, what first", duel -> duel.play(1, 1), NO);
    }

    private void refusedWhenPoor() {
        refused("plant for 4", duel -> duel.plant(0, 0), NO);
        refused("plant for 0", duel -> duel.plant(1, 0), NO);
        refused("soonest", duel -> duel.soonest(0, 0), NONE);
        refused("soonest, the first", duel -> duel.soonest(1, 1), NONE);
        refused("count of who has lost", duel -> duel.count(3), NONE);
        refused("behind, who has lost", duel -> duel.behind(36, 2), NONE);
        refused("year, who has lost", duel -> duel.year(0, 5, 2), NONE);
    }

    /** What is asked changes nothing either, at the most that can be asked. */
    private void askedOnly() {
        asked("behind", duel -> duel.behind(36, 1));
        asked("soonest", duel -> duel.soonest(0, 0));
        asked("soonest of the other one", duel -> duel.soonest(1, 5));
        asked("hold", duel -> duel.hold(0, 5, 5));
        asked("hold of the other one", duel -> duel.hold(1, 5, 1));
        asked("play", duel -> duel.play(3, 0));
        asked("play, what first", duel -> duel.play(3, 1));
        asked("kind", duel -> duel.kind(0, 24, 1));
        asked("kind of the other one", duel -> duel.kind(1, 24, 0));
        asked("did", duel -> duel.did(0));
        asked("was", duel -> duel.was(1));
        asked("drought", duel -> duel.drought(1, 6, 5, 0));
        asked("year", duel -> duel.year(9999, 40, 0));
        asked("hedge", duel -> duel.hedge(1, 7));
        asked("month", duel -> duel.month(99, 1));
        asked("count", duel -> duel.count(8));
        asked("fault", HedgeDuel::fault);
    }

    /** The same questions of a duel that was asked nothing yet, one behind the other, and backwards. */
    private void askedInAnyOrder() {
        List<Call> questions = questions();
        List<Integer> due = new ArrayList<>();
        for (Call question : questions) {
            due.add(question.on(state.get()));
        }
        HedgeDuel forwards = state.get();
        HedgeDuel backwards = state.get();
        for (int i = 0, k = questions.size() - 1; k >= 0; i++, k--) {
            Check.is(name + ": question " + i + " behind others", questions.get(i).on(forwards), due.get(i));
            Check.is(name + ": question " + k + " backwards", questions.get(k).on(backwards), due.get(k));
        }
    }

    private static List<Call> questions() {
        List<Call> questions = new ArrayList<>();
        for (int side = 0; side <= 1; side++) {
            int p = side;
            questions.add(duel -> duel.did(p));
            questions.add(duel -> duel.was(p));
            for (int number = 0; number <= 5; number++) {
                int n = number;
                questions.add(duel -> duel.soonest(p, n));
                questions.add(duel -> duel.hold(p, n, 1));
                questions.add(duel -> duel.hold(p, n, n));
                questions.add(duel -> duel.play(n, p));
                questions.add(duel -> duel.kind(p, n * 5, n % 2));
                questions.add(duel -> duel.drought(p, n, 4, n % 2));
                questions.add(duel -> duel.behind(n * 7, n % 3));
                questions.add(duel -> duel.year(n * 999, n * 8, n % 3));
                questions.add(duel -> duel.hedge(p, n));
                questions.add(duel -> duel.count(n));
            }
        }
        return questions;
    }

    private void asked(String call, Call question) {
        HedgeDuel one = state.get();
        HedgeDuel other = state.get();
        int answer = question.on(one);
        Check.is(name + ": " + call + " asked once more", question.on(one), answer);
        boolean same = Check.drained(one).equals(Check.drained(other));
        Check.is(name + ": " + call + " changes nothing", same ? 1 : 0, 1);
    }
}
