import java.util.ArrayList;
import java.util.List;

/** Promises 27 and 28: undo and the digest. */
public final class StateTest {
    private static final Class<?> STATE = IllegalStateException.class;

    private final Checks checks = new Checks("StateTest");

    public static void main(String[] args) {
        StateTest test = new StateTest();
        test.promise27Undo();
        test.promise27EveryUndoableCall();
        test.promise27TalkOfThen();
        test.promise27ThrowingCallsSaveNothing();
        test.promise28DigestOfANewObject();
        test.promise28DigestAmidSwaps();
        test.promise28DigestBesideEachOther();
        test.checks.end();
    }

    private void promise27Undo() {
        ToneLoader x = new ToneLoader();
        checks.refused("example 5", x, STATE, () -> x.undo());
        for (int noise = 1; noise <= 6; noise++) {
            x.setNoise(0, 0, noise);
        }
        for (int left = 3; left >= 0; left--) {
            checks.same("undo", x.undo(), left);
            checks.same("noise", x.disturbedNoise(0, 0), left + 2);
        }
        checks.refused("the older ones are dropped", x, STATE, () -> x.undo());
        x.setNoise(0, 0, 77);
        checks.same("no change, but saved", x.setNoise(0, 0, 77), 77);
        checks.same("undo", x.undo(), 1);
        checks.same("noise", x.disturbedNoise(0, 0), 77);
        checks.same("undo", x.undo(), 0);
        checks.same("noise", x.disturbedNoise(0, 0), 2);
    }

    private static ToneLoader amidSwaps() {
        ToneLoader x = new ToneLoader();
        x.loadBits(0, 20);
        x.loadBits(1, 40);
        x.setNoise(1, 3, 900);
        x.request(0, 0, 5);
        x.deliver(0, 0, false);
        x.run(9);
        x.resend(0);
        return x;
    }

    /** Each undoable call can be undone, and the state behind it is the one from before. */
    private void promise27EveryUndoableCall() {
        ToneLoader x = amidSwaps();
        List<Runnable> calls = new ArrayList<>();
        calls.add(() -> x.setNoise(0, 4, 7));
        calls.add(() -> x.setCoupling(1, 4, 900));
        calls.add(() -> x.setLimit(1, 4, 9));
        calls.add(() -> x.setBudget(1, 9));
        calls.add(() -> x.loadRate(0));
        calls.add(() -> x.loadBits(0, 3));
        calls.add(() -> x.repair(1));
        calls.add(() -> x.repair(0));
        calls.add(() -> x.balance(2));
        calls.add(() -> x.request(1, 0, 1));
        calls.add(() -> x.resend(0));
        calls.add(() -> x.deliver(0, 0, false));
        calls.add(() -> x.deliver(0, 1, false));
        calls.add(() -> x.deliver(0, 1, true));
        calls.add(() -> x.run(0));
        calls.add(() -> x.run(30));
        // Leaves three saved states, so that no call drops one that its undo would not bring back.
        x.setBudget(0, 3000);
        x.undo();
        long before = x.digest();
        for (int i = 0; i < calls.size(); i++) {
            calls.get(i).run();
            checks.same("undo of call " + i, x.undo(), 3);
            checks.same("digest after undo of call " + i, x.digest(), before);
        }
        checkTalkAfterUndo(x);
    }

    /** What the digest does not show comes back too: the agreement and the next number. */
    private void checkTalkAfterUndo(ToneLoader x) {
        x.loadBits(0, 3);
        x.run(5);
        x.undo();
        x.undo();
        checks.same("resend", x.resend(0), 0);
        checks.same("the agreement is back", x.deliver(0, 0, false), 8);
        checks.same("its answer", x.deliver(0, 1, false), 8);
        x.run(1);
        checks.same("in step", x.inStep(0), true);
        checks.same("the next number is back", x.request(0, 1, 6), 1);
    }

    /** An undo goes back behind further requests, with the messages and tones of then. */
    private void promise27TalkOfThen() {
        ToneLoader x = new ToneLoader();
        x.loadBits(0, 20);
        x.request(0, 0, 5);
        x.deliver(0, 0, false);
        x.deliver(0, 1, false);
        x.run(8);
        x.request(0, 2, 7);
        x.deliver(0, 0, false);
        long before = x.digest();
        x.deliver(0, 1, false);
        x.run(8);
        x.request(0, 3, 9);
        x.deliver(0, 0, false);
        for (int left = 3; left >= 0; left--) {
            checks.same("undo", x.undo(), left);
        }
        checks.same("the digest but for the saved states", x.digest(), before - 4);
        checks.same("the answer of then", x.deliver(0, 1, false), 16);
        x.run(8);
        checks.same("the receiver's tones of then", x.bits(0, 2, 0), 1);
        checks.same("the receiver's tones of then", x.bits(0, 7, 0), 2);
        checks.same("the sender's tones of then", x.bits(0, 2, 1), 1);
        checks.same("the sender's tones of then", x.bits(0, 7, 1), 2);
        checks.same("in step", x.inStep(0), true);
        checks.same("the number of then", x.request(0, 3, 9), 2);
    }

    private void promise27ThrowingCallsSaveNothing() {
        ToneLoader x = new ToneLoader();
        x.setNoise(0, 0, 5);
        checks.refused("setNoise", x, IllegalArgumentException.class, () -> x.setNoise(0, 0, 0));
        checks.refused("resend", x, STATE, () -> x.resend(0));
        checks.same("undo", x.undo(), 0);
        checks.same("noise", x.disturbedNoise(0, 0), 100);
        checks.refused("undo", x, STATE, () -> x.undo());
    }

    private static long hash(List<Long> values) {
        long h = 2789;
        for (long v : values) {
            h = 31 * h + v;
        }
        return h;
    }

    private static void add(List<Long> values, long... more) {
        for (long v : more) {
            values.add(v);
        }
    }

    private void promise28DigestOfANewObject() {
        List<Long> values = new ArrayList<>();
        add(values, 0);
        for (int pair = 0; pair < 2; pair++) {
            add(values, 1000000);
            for (int tone = 0; tone < 16; tone++) {
                add(values, 100, 0, 12, 0, 0, 0, -1);
            }
            add(values, 1, 0, 0, 0, 0);
        }
        add(values, 0);
        checks.same("digest", new ToneLoader().digest(), hash(values));
    }

    /** Pair 0 is out of step with an open request, pair 1 has a tone of 900 in its table. */
    private void promise28DigestAmidSwaps() {
        ToneLoader x = amidSwaps();
        List<Long> values = new ArrayList<>();
        add(values, 9, 1000000);
        for (int tone = 0; tone < 16; tone++) {
            long receiver = tone < 4 ? 2 : 1;
            long sender = tone == 0 ? 1 : tone == 5 ? 2 : receiver;
            add(values, 100, 0, 12, receiver, sender, receiver == 2 ? 300 : 100, 100);
        }
        add(values, 1, 1, 0, 0, 5, -1, 1, 1, 2, 1000000);
        for (int tone = 0; tone < 16; tone++) {
            long bits = tone < 8 ? 3 : 2;
            long noise = tone == 3 ? 900 : 100;
            add(values, noise, 0, 12, bits, bits, bits == 3 ? 700 : 300, tone == 3 ? 11 : 100);
        }
        add(values, 0, 0, 0, 0, 0, 4);
        checks.same("digest", x.digest(), hash(values));
        x.deliver(0, 1, false);
        values.set(values.indexOf(-1L), 8L);
        int noted = values.indexOf(8L);
        values.set(noted + 2, 0L);
        checks.same("digest with a noted frame", x.digest(), hash(values));
    }

    /** Each pair is disturbed by the other, and the second request of pair 1 is open. */
    private void promise28DigestBesideEachOther() {
        ToneLoader x = new ToneLoader();
        x.loadBits(0, 16);
        x.loadBits(1, 16);
        x.request(1, 6, 7);
        x.deliver(1, 0, false);
        x.deliver(1, 1, false);
        x.run(8);
        x.setCoupling(0, 2, 1000);
        x.setCoupling(1, 3, 500);
        x.request(1, 7, 6);
        List<Long> values = new ArrayList<>();
        add(values, 8, 1000000);
        for (int tone = 0; tone < 16; tone++) {
            add(values, 100, tone == 2 ? 1000 : 0, 12, 1, 1, 100, tone == 2 ? 50 : 100);
        }
        add(values, 1, 0, 0, 0, 0, 1000000);
        for (int tone = 0; tone < 16; tone++) {
            long bits = tone == 6 ? 0 : tone == 7 ? 2 : 1;
            long energy = bits == 2 ? 300 : 100 * bits;
            long margin = tone == 6 ? -1 : tone == 3 ? 66 : 100;
            add(values, 100, tone == 3 ? 500 : 0, 12, bits, bits, energy, margin);
        }
        add(values, 0, 1, 1, 7, 6, -1, 1, 0, 0, 4);
        checks.same("digest", x.digest(), hash(values));
    }
}
