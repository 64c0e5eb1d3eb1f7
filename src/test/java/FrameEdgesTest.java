/** The edges of promises 24 to 26: frames, swaps that are carried out in them, broken frames. */
public final class FrameEdgesTest {
    private final Checks checks = new Checks("FrameEdgesTest");
    private final Edges edges = new Edges(checks);

    public static void main(String[] args) {
        FrameEdgesTest test = new FrameEdgesTest();
        test.noFrames();
        test.mostFrames();
        test.framesOneByOneOrAtOnce();
        test.bothEndsInTheAgreedFrame();
        test.theSenderInThatFrameOnly();
        test.theReceiverInALaterFrame();
        test.nothingWithoutAnAnswer();
        test.loweredLimitKeepsNoSwap();
        test.bitsToNoneAndToTwelve();
        test.energiesOfTheMoment();
        test.pairZeroFirst();
        test.stepOfANewObject();
        test.brokenFromTheSendersFrame();
        test.notBrokenWhenBothSwap();
        test.notBrokenWhenTheReceiverCatchesUp();
        test.brokenFramesOfEachPair();
        test.brokenFramesStay();
        test.fiveHundredCalls();
        test.checks.end();
    }

    /** A swap of a bit from tone 0 to tone 5 of this pair, noted for frame 8; frame 0 now. */
    private static ToneLoader awaiting(int pair) {
        ToneLoader x = Scenes.loaded();
        x.request(pair, 0, 5);
        x.deliver(pair, 0, false);
        x.deliver(pair, 1, false);
        return x;
    }

    /** "frames: 0 to 1000": none passes, and nothing happens in it. */
    private void noFrames() {
        ToneLoader x = Scenes.apart();
        checks.same("frame 10", x.run(0), 10);
        checks.same("frame 10", x.run(0), 10);
        checks.same("no broken frame", x.brokenFrames(0), 3);
        x.resend(0);
        x.deliver(0, 0, false);
        x.deliver(0, 1, false);
        checks.same("noted for frame 8, but no frame comes", x.run(0), 10);
        checks.same("not in step", x.inStep(0), false);
        checks.same("undoable", x.undo(), 3);
        x.run(1);
        checks.same("in step", x.inStep(0), true);
    }

    private void mostFrames() {
        ToneLoader x = awaiting(0);
        checks.same("1000", x.run(1000), 1000);
        checks.same("the swap is among them", x.bits(0, 5, 0), 2);
        checks.same("2000", x.run(1000), 2000);
        checks.same("once", x.bits(0, 5, 0), 2);
        checks.same("once", x.bits(0, 5, 1), 2);
        checks.same("2001", x.run(1), 2001);
        checks.same("undo", x.undo(), 3);
        checks.same("2000", x.run(0), 2000);
    }

    private void framesOneByOneOrAtOnce() {
        for (int pair = 0; pair < 2; pair++) {
            ToneLoader many = awaiting(pair);
            for (int i = 1; i <= 20; i++) {
                checks.same("frame", many.run(1), i);
            }
            ToneLoader once = awaiting(pair);
            checks.same("frame", once.run(20), 20);
            checks.same("values", Edges.pairValues(many, 0), Edges.pairValues(once, 0));
            checks.same("values", Edges.pairValues(many, 1), Edges.pairValues(once, 1));
        }
    }

    private void checkSwapped(String what, ToneLoader x, int end, boolean swapped) {
        checks.same(what + ", from", x.bits(0, 0, end), swapped ? 1 : 2);
        checks.same(what + ", to", x.bits(0, 5, end), swapped ? 2 : 1);
    }

    private void bothEndsInTheAgreedFrame() {
        ToneLoader x = awaiting(0);
        x.run(7);
        checkSwapped("receiver in frame 7", x, 0, false);
        checkSwapped("sender in frame 7", x, 1, false);
        x.run(1);
        checkSwapped("receiver in frame 8", x, 0, true);
        checkSwapped("sender in frame 8", x, 1, true);
        x.run(1);
        checkSwapped("receiver in frame 9", x, 0, true);
        checkSwapped("sender in frame 9", x, 1, true);
    }

    /** "(the agreement remains the one that was made last, but it is carried out only in ...)" */
    private void theSenderInThatFrameOnly() {
        ToneLoader x = Scenes.requested();
        x.deliver(0, 0, false);
        x.run(7);
        checkSwapped("frame 7", x, 1, false);
        x.run(1);
        checkSwapped("frame 8", x, 1, true);
        x.run(1000);
        checkSwapped("frame 1008", x, 1, true);
        x.resend(0);
        checks.same("answered again", x.deliver(0, 0, false), 8);
        x.run(1000);
        checkSwapped("frame 2008", x, 1, true);
        checkSwapped("the receiver", x, 0, false);
        ToneLoader y = awaiting(0);
        y.run(8);
        y.request(0, 1, 6);
        y.run(100);
        checkSwapped("not again for a request that has not come", y, 1, true);
        checks.same("in step", y.inStep(0), true);
    }

    /** "if it has noted the frame f or an earlier one" */
    private void theReceiverInALaterFrame() {
        for (int late = 0; late <= 992; late += 124) {
            ToneLoader x = Scenes.requested();
            x.deliver(0, 0, false);
            x.run(8 + late);
            checks.same("noted", x.deliver(0, 1, false), 8);
            checkSwapped("not before a frame comes", x, 0, false);
            x.run(1);
            checkSwapped("in the next frame", x, 0, true);
            checkSwapped("the sender has already", x, 1, true);
            edges.answers("closed", x, y -> y.resend(0), Edges.STATE);
        }
        ToneLoader x = Scenes.requested();
        x.deliver(0, 0, false);
        x.run(7);
        checks.same("noted one frame before", x.deliver(0, 1, false), 8);
        x.run(1);
        checkSwapped("in time", x, 0, true);
        checks.same("no broken frame", x.brokenFrames(0), 0);
    }

    private void nothingWithoutAnAnswer() {
        ToneLoader x = Scenes.requested();
        x.run(1000);
        checkSwapped("receiver", x, 0, false);
        checkSwapped("sender", x, 1, false);
        checks.same("in step", x.inStep(0), true);
        checks.same("still open", x.resend(0), 0);
    }

    /** "(A limit that was lowered since the request does not keep a swap from ...)" */
    private void loweredLimitKeepsNoSwap() {
        ToneLoader x = awaiting(0);
        checks.same("lowered to its bits", x.setLimit(0, 5, 1), 12);
        x.run(8);
        checkSwapped("receiver", x, 0, true);
        checkSwapped("sender", x, 1, true);
        checks.same("energy", x.energy(0, 5), 300);
        ToneLoader y = Scenes.toneZeroAlone();
        y.loadBits(0, 1);
        y.setLimit(0, 9, 1);
        y.request(0, 0, 9);
        y.deliver(0, 0, false);
        y.deliver(0, 1, false);
        checks.same("lowered to 0", y.setLimit(0, 9, 0), 1);
        y.run(8);
        checks.same("1 bit over a limit of 0", y.bits(0, 9, 0), 1);
        checks.same("1 bit over a limit of 0", y.bits(0, 9, 1), 1);
        edges.answers("a limit of 0 is refused now", y, z -> z.setLimit(0, 9, 0), Edges.STATE);
        checks.same("a load keeps to it", y.loadBits(0, 1), 100);
        checks.same("a load keeps to it", y.bits(0, 9, 0), 0);
    }

    private void bitsToNoneAndToTwelve() {
        ToneLoader x = Scenes.toneZeroAlone();
        x.setLimit(0, 0, 11);
        x.setLimit(0, 15, 1);
        x.loadBits(0, 12);
        x.setLimit(0, 0, 12);
        x.request(0, 15, 0);
        x.deliver(0, 0, false);
        x.deliver(0, 1, false);
        x.run(8);
        for (int end = 0; end < 2; end++) {
            checks.same("none", x.bits(0, 15, end), 0);
            checks.same("12", x.bits(0, 0, end), 12);
        }
        checks.same("none", x.energy(0, 15), 0);
        checks.same("12", x.energy(0, 0), 409500);
        checks.same("no margin", x.margin(0, 15), -1);
    }

    /** "the energies of the two tones become the needs ..., with the disturbed noise of ..." */
    private void energiesOfTheMoment() {
        ToneLoader x = awaiting(0);
        x.setNoise(0, 0, 70);
        x.setNoise(0, 5, 80);
        x.setNoise(0, 6, 90);
        x.setCoupling(0, 5, 500);
        x.run(7);
        checks.same("not yet", x.energy(0, 0), 300);
        checks.same("not yet", x.energy(0, 5), 100);
        x.run(1);
        checks.same("1 bit at 70", x.energy(0, 0), 70);
        checks.same("2 bits at 80 + 50", x.energy(0, 5), 390);
        checks.same("another tone", x.energy(0, 6), 100);
        x.setNoise(0, 0, 75);
        x.run(1);
        checks.same("only in that frame", x.energy(0, 0), 70);
        ToneLoader y = Scenes.requested();
        y.deliver(0, 0, false);
        y.setNoise(0, 0, 70);
        y.run(8);
        checks.same("the sender sets no energies", y.energy(0, 0), 300);
        checks.same("the sender sets no energies", y.energy(0, 5), 100);
    }

    /** "first for pair 0 and then for pair 1" */
    private void pairZeroFirst() {
        ToneLoader x = Scenes.loaded();
        for (int pair = 1; pair >= 0; pair--) {
            x.setCoupling(pair, 0, 1000);
            x.setCoupling(pair, 5, 1000);
            x.request(pair, 0, 5);
            x.deliver(pair, 0, false);
            x.deliver(pair, 1, false);
        }
        x.run(8);
        checks.same("pair 0: 1 bit beside 300", x.energy(0, 0), 400);
        checks.same("pair 0: 2 bits beside 100", x.energy(0, 5), 600);
        checks.same("pair 1: 1 bit beside 400", x.energy(1, 0), 500);
        checks.same("pair 1: 2 bits beside 600", x.energy(1, 5), 2100);
    }

    private void stepOfANewObject() {
        ToneLoader x = new ToneLoader();
        for (int pair = 0; pair < 2; pair++) {
            checks.same("in step", x.inStep(pair), true);
            checks.same("none broken", x.brokenFrames(pair), 0);
        }
        x.run(1000);
        checks.same("none broken", x.brokenFrames(0) + x.brokenFrames(1), 0);
    }

    /** "if its ends are not in step after all that happens in it" */
    private void brokenFromTheSendersFrame() {
        ToneLoader x = Scenes.requested();
        x.deliver(0, 0, false);
        x.run(7);
        checks.same("frame 7", x.brokenFrames(0), 0);
        checks.same("frame 7", x.inStep(0), true);
        x.run(1);
        checks.same("frame 8", x.brokenFrames(0), 1);
        checks.same("frame 8", x.inStep(0), false);
        x.run(1000);
        checks.same("frame 1008", x.brokenFrames(0), 1001);
    }

    private void notBrokenWhenBothSwap() {
        ToneLoader x = awaiting(0);
        x.run(8);
        checks.same("both in frame 8", x.brokenFrames(0), 0);
        checks.same("both in frame 8", x.inStep(0), true);
        x.run(100);
        checks.same("and later", x.brokenFrames(0), 0);
    }

    private void notBrokenWhenTheReceiverCatchesUp() {
        ToneLoader x = Scenes.requested();
        x.deliver(0, 0, false);
        x.run(8);
        x.deliver(0, 1, false);
        checks.same("not before a frame comes", x.inStep(0), false);
        x.run(1);
        checks.same("in step", x.inStep(0), true);
        checks.same("frame 8 alone", x.brokenFrames(0), 1);
        x.run(10);
        checks.same("frame 8 alone", x.brokenFrames(0), 1);
    }

    private void brokenFramesOfEachPair() {
        for (int pair = 0; pair < 2; pair++) {
            ToneLoader x = Scenes.requested();
            x.deliver(pair, 0, false);
            x.run(12);
            checks.same("this pair", x.brokenFrames(pair), 5);
            checks.same("this pair", x.inStep(pair), false);
            checks.same("the other pair", x.brokenFrames(1 - pair), 0);
            checks.same("the other pair", x.inStep(1 - pair), true);
        }
    }

    /** No load takes broken frames back; an undo does. */
    private void brokenFramesStay() {
        ToneLoader x = Scenes.apart();
        x.loadRate(0);
        checks.same("loadRate", x.brokenFrames(0), 3);
        x.loadBits(0, 5);
        checks.same("loadBits", x.brokenFrames(0), 3);
        x.repair(0);
        checks.same("repair", x.brokenFrames(0), 3);
        x.balance(2);
        checks.same("balance", x.brokenFrames(0), 3);
        x.run(1000);
        checks.same("in step again", x.brokenFrames(0), 3);
        ToneLoader y = Scenes.apart();
        y.undo();
        checks.same("undo", y.brokenFrames(0), 0);
    }

    /** An object is used for up to 512 calls; these are as many frames as they can make. */
    private void fiveHundredCalls() {
        ToneLoader x = Scenes.requested();
        x.deliver(0, 0, false);
        int calls = 5;
        int frames = 0;
        while (calls < 508) {
            frames += 1000;
            checks.same("frames", x.run(1000), frames);
            calls++;
        }
        checks.same("broken", x.brokenFrames(0), frames - 7);
        checks.same("answered", x.deliver(1, 0, false), frames + 8);
        checks.same("noted", x.deliver(0, 1, false), 8);
        checks.same("carried out", x.run(1), frames + 1);
    }
}
