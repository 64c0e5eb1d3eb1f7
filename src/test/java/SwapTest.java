/** Promises 20 to 26: requests, messages, agreements and frames. */
public final class SwapTest {
    private static final Class<?> INDEX = IndexOutOfBoundsException.class;
    private static final Class<?> ARGUMENT = IllegalArgumentException.class;
    private static final Class<?> STATE = IllegalStateException.class;

    private final Checks checks = new Checks("SwapTest");

    public static void main(String[] args) {
        SwapTest test = new SwapTest();
        test.promise20Request();
        test.promise20RequestWrong();
        test.promise20NumbersGoRound();
        test.promise20OverTheLimit();
        test.promise21Suggest();
        test.promise22Resend();
        test.promise23Deliver();
        test.promise23SameAgreementAgain();
        test.promise23AnswersWithoutEffect();
        test.promise23LaterFrames();
        test.promise24Run();
        test.promise24EnergiesOfTheMoment();
        test.promise24LateReceiver();
        test.promise25And26InStep();
        test.checks.end();
    }

    private static ToneLoader loaded() {
        ToneLoader x = new ToneLoader();
        x.loadBits(0, 20);
        x.loadBits(1, 20);
        return x;
    }

    private static void swap(ToneLoader x, int pair, int from, int to) {
        x.request(pair, from, to);
        x.deliver(pair, 0, false);
        x.deliver(pair, 1, false);
        x.run(8);
    }

    private void promise20Request() {
        ToneLoader x = loaded();
        checks.same("example 3", x.request(0, 0, 5), 0);
        checks.same("example 3", x.deliver(0, 0, false), 8);
        checks.same("example 3", x.deliver(0, 1, false), 8);
        checks.same("example 3", x.run(8), 8);
        checks.same("example 3", x.bits(0, 0, 0), 1);
        checks.same("example 3", x.bits(0, 5, 1), 2);
        checks.same("example 3", x.inStep(0), true);
        checks.same("example 3", x.brokenFrames(0), 0);
        checks.same("energy", x.energy(0, 0), 100);
        checks.same("energy", x.energy(0, 5), 300);
        checks.same("next number", x.request(0, 1, 6), 1);
        checks.same("the other pair counts for itself", x.request(1, 1, 6), 0);
        checks.same("undo", x.undo(), 3);
        checks.same("undo", x.undo(), 2);
        checks.refused("undo: no message", x, STATE, () -> x.deliver(0, 0, false));
        checks.same("undo: the number again", x.request(0, 1, 6), 1);
    }

    private void promise20RequestWrong() {
        ToneLoader x = loaded();
        ToneLoader empty = new ToneLoader();
        checks.refused("example 5", empty, STATE, () -> empty.request(0, 3, 4));
        checks.refused("pair", x, INDEX, () -> x.request(2, 0, 0));
        checks.refused("pair", x, INDEX, () -> x.request(-1, 0, 1));
        checks.refused("from", x, INDEX, () -> x.request(0, 16, 16));
        checks.refused("from", x, INDEX, () -> x.request(0, -1, 0));
        checks.refused("to", x, INDEX, () -> x.request(0, 0, 16));
        checks.refused("to", x, INDEX, () -> x.request(0, 0, -1));
        checks.refused("the same", x, ARGUMENT, () -> x.request(0, 4, 4));
        x.setLimit(0, 5, 1);
        checks.refused("to is full", x, STATE, () -> x.request(0, 0, 5));
        x.setLimit(0, 5, 2);
        checks.same("to has room", x.request(0, 0, 5), 0);
        checks.refused("open", x, STATE, () -> x.request(0, 1, 6));
        checks.refused("the same before open", x, ARGUMENT, () -> x.request(0, 6, 6));
        x.deliver(0, 0, false);
        x.run(8);
        checks.same("apart", x.inStep(0), false);
        checks.refused("apart and open", x, STATE, () -> x.request(0, 1, 6));
        x.loadBits(0, 1);
        checks.refused("from has no bit", x, STATE, () -> x.request(0, 1, 2));
        checks.same("from has one", x.request(0, 0, 2), 0);
    }

    private void promise20NumbersGoRound() {
        ToneLoader x = new ToneLoader();
        x.loadBits(1, 16);
        for (int i = 0; i < 20; i++) {
            int from = i % 2 == 0 ? 3 : 4;
            checks.same("number", x.request(1, from, 7 - from), i % 8);
            checks.same("a new agreement", x.deliver(1, 0, false), 8 * i + 8);
            checks.same("noted", x.deliver(1, 1, false), 8 * i + 8);
            x.run(8);
            checks.same("swapped", x.bits(1, from, 0), i % 2 == 0 ? 0 : 1);
            checks.same("in step", x.inStep(1), true);
        }
        checks.same("brokenFrames", x.brokenFrames(1), 0);
    }

    /** A limit that is lowered after the request leaves the swap as it is. */
    private void promise20OverTheLimit() {
        ToneLoader x = loaded();
        x.request(0, 0, 5);
        x.setLimit(0, 5, 1);
        x.deliver(0, 0, false);
        x.deliver(0, 1, false);
        x.run(8);
        checks.same("over the limit", x.bits(0, 5, 0), 2);
        checks.same("over the limit", x.bits(0, 5, 1), 2);
        checks.refused("no more room", x, STATE, () -> x.request(0, 1, 5));
        checks.refused("the limit stays below", x, STATE, () -> x.setLimit(0, 5, 1));
        x.setNoise(0, 5, 1);
        checks.same("a full tone gets nothing", x.repair(0), 0);
        checks.same("and gives nothing that is cheap", x.bits(0, 5, 0), 2);
        checks.same("back", x.request(0, 5, 0), 0);
    }

    private void promise21Suggest() {
        ToneLoader x = loaded();
        checks.same("0 of equal margins, 4 of equal steps", x.suggest(0), 4);
        x.setNoise(0, 2, 1000);
        checks.same("the least margin", x.suggest(0), 2 * 16 + 4);
        x.setNoise(0, 9, 1000);
        checks.same("the lowest of equal ones", x.suggest(0), 2 * 16 + 4);
        x.setNoise(0, 7, 99);
        checks.same("the smallest step", x.suggest(0), 2 * 16 + 7);
        x.setLimit(0, 7, 1);
        checks.same("below its limit", x.suggest(0), 2 * 16 + 4);
        x.setNoise(0, 0, 10);
        checks.same("to tone 0", x.suggest(0), 2 * 16);
        ToneLoader y = new ToneLoader();
        checks.same("no bits", y.suggest(0), -1);
        for (int tone = 1; tone < 16; tone++) {
            y.setLimit(1, tone, 0);
        }
        y.loadBits(1, 1);
        checks.same("no other tone", y.suggest(1), -1);
        y.setLimit(1, 15, 1);
        checks.same("the other tone, dear as it is", y.suggest(1), 15);
        y.setNoise(1, 15, 10000);
        checks.same("the other tone, dear as it is", y.suggest(1), 15);
        checks.refused("pair", x, INDEX, () -> x.suggest(2));
        checks.refused("pair", x, INDEX, () -> x.suggest(-1));
    }

    private void promise22Resend() {
        ToneLoader x = loaded();
        checks.refused("nothing open", x, STATE, () -> x.resend(0));
        x.request(0, 0, 5);
        checks.refused("nothing open there", x, STATE, () -> x.resend(1));
        checks.same("replaces the message", x.resend(0), 0);
        checks.same("delivered", x.deliver(0, 0, false), 8);
        checks.refused("only one was on its way", x, STATE, () -> x.deliver(0, 0, false));
        checks.same("again", x.resend(0), 0);
        checks.same("undo", x.undo(), 3);
        checks.refused("undone", x, STATE, () -> x.deliver(0, 0, true));
        x.deliver(0, 1, false);
        x.run(8);
        checks.refused("carried out", x, STATE, () -> x.resend(0));
        checks.same("number", x.request(0, 1, 6), 1);
        checks.same("number", x.resend(0), 1);
        checks.refused("pair", x, INDEX, () -> x.resend(2));
        checks.refused("pair", x, INDEX, () -> x.resend(-1));
    }

    private void promise23Deliver() {
        ToneLoader x = loaded();
        checks.refused("no request", x, STATE, () -> x.deliver(0, 0, true));
        checks.refused("no answer", x, STATE, () -> x.deliver(0, 1, false));
        x.run(5);
        x.request(0, 0, 5);
        checks.refused("not the other pair's", x, STATE, () -> x.deliver(1, 0, false));
        checks.same("lost", x.deliver(0, 0, true), -1);
        checks.refused("lost is gone", x, STATE, () -> x.deliver(0, 0, false));
        checks.refused("no answer to it", x, STATE, () -> x.deliver(0, 1, false));
        checks.same("undo of the loss", x.undo(), 3);
        checks.same("5 + 8", x.deliver(0, 0, false), 13);
        checks.same("the answer is lost", x.deliver(0, 1, true), -1);
        checks.refused("lost is gone", x, STATE, () -> x.deliver(0, 1, false));
        checks.refused("pair", x, INDEX, () -> x.deliver(2, 2, false));
        checks.refused("pair", x, INDEX, () -> x.deliver(-1, 0, false));
        checks.refused("message 2", x, ARGUMENT, () -> x.deliver(0, 2, false));
        checks.refused("message -1", x, ARGUMENT, () -> x.deliver(0, -1, true));
    }

    private void promise23SameAgreementAgain() {
        ToneLoader x = loaded();
        x.request(0, 0, 5);
        checks.same("example 4", x.deliver(0, 0, false), 8);
        checks.same("example 4", x.deliver(0, 1, true), -1);
        checks.same("example 4", x.run(10), 10);
        checks.same("example 4", x.brokenFrames(0), 3);
        checks.same("example 4", x.resend(0), 0);
        checks.same("example 4", x.deliver(0, 0, false), 8);
        checks.same("example 4", x.deliver(0, 1, false), 8);
        checks.same("example 4", x.inStep(0), false);
        checks.same("example 4", x.run(1), 11);
        checks.same("example 4", x.inStep(0), true);
        checks.same("in step after all that happens", x.brokenFrames(0), 3);
        checks.same("the agreement is carried out once", x.run(20), 31);
        checks.same("the agreement is carried out once", x.bits(0, 5, 1), 2);
        checks.same("the request is carried out once", x.bits(0, 5, 0), 2);
    }

    private void promise23AnswersWithoutEffect() {
        ToneLoader x = loaded();
        x.request(0, 0, 5);
        x.deliver(0, 0, false);
        x.deliver(0, 1, false);
        x.resend(0);
        x.run(8);
        checks.same("an old request is answered again", x.deliver(0, 0, false), 8);
        long saved = x.digest();
        checks.same("nothing is open", x.deliver(0, 1, false), -1);
        checks.same("the message is gone", x.digest() != saved, true);
        checks.refused("the message is gone", x, STATE, () -> x.deliver(0, 1, false));
        checks.same("undo", x.undo(), 3);
        checks.same("undo: one saved state less, and that alone", x.digest(), saved - 1);
        checks.same("another is open", x.request(0, 1, 6), 1);
        checks.same("but not that number", x.deliver(0, 1, false), -1);
        x.run(4);
        checks.same("nothing was noted", x.bits(0, 6, 0), 1);
        checks.same("its own agreement", x.deliver(0, 0, false), 20);
        checks.same("its own answer", x.deliver(0, 1, false), 20);
        x.run(8);
        checks.same("swapped", x.bits(0, 6, 0), 2);
        checks.same("swapped", x.bits(0, 6, 1), 2);
        checks.same("brokenFrames", x.brokenFrames(0), 0);
    }

    private void promise23LaterFrames() {
        ToneLoader x = loaded();
        x.request(0, 0, 5);
        x.deliver(0, 0, false);
        x.run(3);
        x.resend(0);
        checks.same("the frame of the agreement", x.deliver(0, 0, false), 8);
        checks.same("replaces the answer", x.deliver(0, 1, false), 8);
        checks.refused("only one answer", x, STATE, () -> x.deliver(0, 1, false));
        x.resend(0);
        checks.same("noted again", x.deliver(0, 0, false), 8);
        checks.same("noted again", x.deliver(0, 1, false), 8);
        x.run(4);
        checks.same("frame 7", x.bits(0, 5, 0), 1);
        x.run(1);
        checks.same("frame 8", x.bits(0, 5, 0), 2);
    }

    private void promise24Run() {
        ToneLoader x = loaded();
        checks.same("run", x.run(0), 0);
        checks.same("run", x.run(1000), 1000);
        checks.same("run", x.run(1), 1001);
        checks.same("undo", x.undo(), 3);
        checks.same("undo", x.run(0), 1000);
        swap(x, 0, 0, 5);
        checks.same("after many frames", x.bits(0, 5, 0), 2);
        checks.refused("frames -1", x, ARGUMENT, () -> x.run(-1));
        checks.refused("frames 1001", x, ARGUMENT, () -> x.run(1001));
    }

    /** Both pairs swap in frame 8: pair 0 beside the old pair 1, pair 1 beside the new pair 0. */
    private void promise24EnergiesOfTheMoment() {
        ToneLoader x = loaded();
        for (int pair = 0; pair < 2; pair++) {
            x.setCoupling(pair, 0, 1000);
            x.setCoupling(pair, 5, 1000);
            x.setCoupling(pair, 1, 1000);
        }
        for (int pair = 0; pair < 2; pair++) {
            x.request(pair, 0, 5);
            x.deliver(pair, 0, false);
            x.deliver(pair, 1, false);
        }
        x.run(7);
        checks.same("before", x.energy(0, 0), 300);
        x.run(1);
        checks.same("1 bit at 100 + 300", x.energy(0, 0), 400);
        checks.same("2 bits at 100 + 100", x.energy(0, 5), 600);
        checks.same("1 bit at 100 + 400", x.energy(1, 0), 500);
        checks.same("2 bits at 100 + 600", x.energy(1, 5), 2100);
        checks.same("other tones stay", x.energy(0, 1), 300);
        checks.same("2 bits after a swap back, at 100 + 500", swapBack(x), 3 * 600);
        checks.same("other tones stay", x.energy(1, 1), 300);
    }

    private static long swapBack(ToneLoader x) {
        swap(x, 0, 5, 0);
        return x.energy(0, 0);
    }

    /** A receiver that learns of the frame after it has passed swaps in the next frame. */
    private void promise24LateReceiver() {
        ToneLoader x = loaded();
        x.request(1, 0, 5);
        x.deliver(1, 0, false);
        x.run(8);
        checks.same("the answer comes late", x.deliver(1, 1, false), 8);
        checks.same("not before a frame", x.bits(1, 5, 0), 1);
        checks.same("no frames, no swap", x.run(0), 8);
        checks.same("no frames, no swap", x.bits(1, 5, 0), 1);
        x.setNoise(1, 5, 50);
        x.run(1);
        checks.same("in the next frame", x.bits(1, 5, 0), 2);
        checks.same("with the noise of then", x.energy(1, 5), 150);
        checks.same("one broken frame", x.brokenFrames(1), 1);
        checks.same("not of the other pair", x.brokenFrames(0), 0);
    }

    private void promise25And26InStep() {
        ToneLoader x = loaded();
        checks.same("inStep", x.inStep(0), true);
        x.request(0, 0, 5);
        x.deliver(0, 0, false);
        x.run(7);
        checks.same("frame 7", x.inStep(0), true);
        checks.same("frame 7", x.brokenFrames(0), 0);
        x.run(1);
        checks.same("frame 8", x.inStep(0), false);
        checks.same("frame 8", x.brokenFrames(0), 1);
        checks.same("the other pair", x.inStep(1), true);
        x.run(5);
        checks.same("frame 13", x.brokenFrames(0), 6);
        checks.same("the other pair", x.brokenFrames(1), 0);
        x.undo();
        checks.same("undo", x.brokenFrames(0), 1);
        x.undo();
        checks.same("undo", x.brokenFrames(0), 0);
        checks.same("undo", x.inStep(0), true);
        x.run(9);
        x.loadRate(0);
        checks.same("loading brings them into step", x.inStep(0), true);
        checks.same("but the count of frames 8 to 16 stays", x.brokenFrames(0), 9);
        checks.refused("pair", x, INDEX, () -> x.inStep(2));
        checks.refused("pair", x, INDEX, () -> x.inStep(-1));
        checks.refused("pair", x, INDEX, () -> x.brokenFrames(2));
        checks.refused("pair", x, INDEX, () -> x.brokenFrames(-1));
    }
}
