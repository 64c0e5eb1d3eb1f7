/** The edges of promises 20 to 23: requests, suggestions, messages and agreements. */
public final class SwapEdgesTest {
    private final Checks checks = new Checks("SwapEdgesTest");
    private final Edges edges = new Edges(checks);

    public static void main(String[] args) {
        SwapEdgesTest test = new SwapEdgesTest();
        test.fromHasNoBit();
        test.toHasAsManyBitsAsItsLimit();
        test.toHasMoreBitsThanItsLimit();
        test.openUntilTheReceiverHasSwapped();
        test.requestOfOnePairOnly();
        test.numbersFromZeroToSeven();
        test.numberZeroAfterALoad();
        test.refusedRequestsTakeNoNumber();
        test.suggestionOfNone();
        test.suggestionsOfAllTones();
        test.suggestionTies();
        test.suggestionUnderLimits();
        test.suggestionAnyTime();
        test.resendNeedsAnOpenRequest();
        test.resendReplacesTheMessage();
        test.eightFramesLater();
        test.lostRequest();
        test.lostAnswer();
        test.sameAgreementAgain();
        test.newAgreementForTheNumberAfterSeven();
        test.newAgreementAfterALoad();
        test.answerWithoutAnOpenRequest();
        test.answerToAnotherRequest();
        test.answerIsReplaced();
        test.requestMessageIsReplaced();
        test.checks.end();
    }

    private static void swap(ToneLoader x, int pair, int from, int to) {
        x.request(pair, from, to);
        x.deliver(pair, 0, false);
        x.deliver(pair, 1, false);
        x.run(8);
    }

    /** "the tone from has no bit" */
    private void fromHasNoBit() {
        Scenes.Scene fifteen = () -> {
            ToneLoader x = new ToneLoader();
            x.loadBits(0, 15);
            return x;
        };
        edges.refused("no bit", fifteen, Edges.STATE, x -> x.request(0, 15, 0));
        edges.answers("one bit", fifteen.make(), x -> x.request(0, 14, 15), 0);
        edges.refused("an empty pair", fifteen, Edges.STATE, x -> x.request(1, 0, 1));
        Scenes.Scene taken = () -> {
            ToneLoader x = fifteen.make();
            swap(x, 0, 14, 15);
            return x;
        };
        edges.refused("its only bit is gone", taken, Edges.STATE, x -> x.request(0, 14, 3));
        edges.answers("the bit that came", taken.make(), x -> x.request(0, 15, 14), 1);
    }

    /** "the tone to has as many bits as its limit" */
    private void toHasAsManyBitsAsItsLimit() {
        for (int limit = 0; limit <= 12; limit++) {
            int bits = limit;
            Scenes.Scene full = () -> twoTones(bits, bits);
            edges.refused("limit " + limit, full, Edges.STATE, x -> x.request(0, 9, 0));
            if (limit > 0) {
                ToneLoader x = twoTones(limit - 1, limit);
                edges.answers("one below limit " + limit, x, y -> y.request(0, 9, 0), 0);
                x.deliver(0, 0, false);
                x.deliver(0, 1, false);
                x.run(8);
                checks.same("up to its limit", x.bits(0, 0, 0), limit);
            }
        }
    }

    /** Tone 0 has so many bits and such a limit, tone 9 has one bit, the others have none. */
    private static ToneLoader twoTones(int bits, int limit) {
        ToneLoader x = Scenes.toneZeroAlone();
        x.setLimit(0, 0, bits);
        x.setLimit(0, 9, 1);
        x.loadBits(0, bits + 1);
        x.setLimit(0, 0, limit);
        return x;
    }

    private void toHasMoreBitsThanItsLimit() {
        Scenes.Scene over = () -> {
            ToneLoader x = Scenes.loaded();
            x.request(0, 0, 5);
            x.setLimit(0, 5, 1);
            x.deliver(0, 0, false);
            x.deliver(0, 1, false);
            x.run(8);
            return x;
        };
        checks.same("2 bits, limit 1", over.make().bits(0, 5, 0), 2);
        edges.refused("more than its limit", over, Edges.STATE, x -> x.request(0, 1, 5));
        edges.answers("it can give", over.make(), x -> x.request(0, 5, 1), 1);
        ToneLoader x = over.make();
        swap(x, 0, 5, 1);
        edges.answers("just its limit", x, y -> y.request(0, 1, 5), Edges.STATE);
        swap(x, 0, 5, 1);
        edges.answers("below its limit", x, y -> y.request(0, 1, 5), 3);
    }

    /** "A request is open until the receiver has carried out the swap." */
    private void openUntilTheReceiverHasSwapped() {
        edges.refused("sent", Scenes::requested, Edges.STATE, x -> x.request(0, 1, 6));
        edges.refused("answered", Scenes::bothOnWay, Edges.STATE, x -> x.request(0, 1, 6));
        edges.refused("noted", Scenes::noted, Edges.STATE, x -> x.request(0, 1, 6));
        edges.refused("the sender has swapped", Scenes::apart, Edges.STATE,
                x -> x.request(0, 1, 6));
        Scenes.Scene lost = () -> {
            ToneLoader x = Scenes.requested();
            x.deliver(0, 0, true);
            x.run(100);
            return x;
        };
        edges.refused("the message is lost", lost, Edges.STATE, x -> x.request(0, 1, 6));
        Scenes.Scene frame7 = () -> {
            ToneLoader x = Scenes.noted();
            x.run(4);
            return x;
        };
        edges.refused("frame 7", frame7, Edges.STATE, x -> x.request(0, 1, 6));
        ToneLoader x = frame7.make();
        x.run(1);
        edges.answers("frame 8", x, y -> y.request(0, 1, 6), 1);
    }

    private void requestOfOnePairOnly() {
        ToneLoader x = Scenes.loaded();
        checks.same("pair 1", x.request(1, 0, 5), 0);
        edges.answers("pair 0 has none open", x, y -> y.resend(0), Edges.STATE);
        edges.answers("pair 0 has no message", x, y -> y.deliver(0, 0, false), Edges.STATE);
        checks.same("pair 0 may request too", x.request(0, 0, 5), 0);
    }

    /** "each new request has the next number (0 after 7)" */
    private void numbersFromZeroToSeven() {
        for (int pair = 0; pair < 2; pair++) {
            ToneLoader x = Scenes.loaded();
            for (int i = 0; i < 18; i++) {
                int tone = i % 2;
                checks.same("number " + i, x.request(pair, tone, 1 - tone), i % 8);
                checks.same("resent " + i, x.resend(pair), i % 8);
                checks.same("agreed " + i, x.deliver(pair, 0, false), 8 * i + 8);
                checks.same("noted " + i, x.deliver(pair, 1, false), 8 * i + 8);
                x.run(8);
            }
            checks.same("the other pair begins with 0", x.request(1 - pair, 0, 1), 0);
        }
    }

    /** "the next request has the number 0 then" */
    private void numberZeroAfterALoad() {
        Edges.Call[] calls = {x -> x.loadRate(0), x -> x.loadBits(0, 20), x -> x.repair(0),
            x -> x.balance(1)};
        for (Edges.Call call : calls) {
            ToneLoader x = Scenes.loaded();
            x.setBudget(0, 2400);
            x.setBudget(1, 2400);
            swap(x, 0, 0, 5);
            checks.same("number", x.request(0, 1, 6), 1);
            call.on(x);
            edges.answers("number 0", x, y -> y.request(0, 1, 6), 0);
            edges.answers("a new agreement", x, y -> y.deliver(0, 0, false), 16);
        }
        ToneLoader x = Scenes.loaded();
        swap(x, 0, 0, 5);
        x.loadBits(1, 20);
        checks.same("not after a load of the other pair", x.request(0, 1, 6), 1);
        ToneLoader y = Scenes.loaded();
        swap(y, 0, 0, 5);
        y.setLimit(0, 15, 11);
        edges.answers("a load that fails", y, z -> z.loadBits(0, 192), Edges.STATE);
        checks.same("is none", y.request(0, 1, 6), 1);
    }

    private void refusedRequestsTakeNoNumber() {
        ToneLoader x = Scenes.loaded();
        edges.answers("the same tone", x, y -> y.request(0, 1, 1), Edges.ARGUMENT);
        checks.same("number", x.request(0, 0, 5), 0);
        edges.answers("open", x, y -> y.request(0, 1, 6), Edges.STATE);
        x.deliver(0, 0, false);
        x.deliver(0, 1, false);
        x.run(8);
        edges.answers("no such tone", x, y -> y.request(0, 1, 16), Edges.INDEX);
        checks.same("number", x.request(0, 1, 6), 1);
        x.undo();
        checks.same("undone requests give theirs back", x.request(0, 2, 7), 1);
    }

    /** "NONE if there are no such tones" */
    private void suggestionOfNone() {
        ToneLoader x = new ToneLoader();
        checks.same("no tone has bits", x.suggest(0), -1);
        x.loadBits(0, 192);
        checks.same("no tone has room", x.suggest(0), -1);
        x.setNoise(0, 7, 1000);
        x.loadBits(0, 191);
        checks.same("tone 7 has room", x.bits(0, 7, 0), 11);
        checks.same("from another tone", x.suggest(0), 7);
        x.setNoise(0, 7, 1001);
        checks.same("but it is the weakest itself", x.suggest(0), -1);
        ToneLoader y = Scenes.toneZeroAlone();
        y.loadBits(0, 1);
        checks.same("no other tone has room", y.suggest(0), -1);
        y.setLimit(0, 15, 1);
        checks.same("tone 15 has", y.suggest(0), 15);
    }

    /** 16 * from + to, for each tone as from and each as to. */
    private void suggestionsOfAllTones() {
        for (int from = 0; from < 16; from++) {
            for (int to = 0; to < 16; to++) {
                if (from != to) {
                    ToneLoader x = new ToneLoader();
                    x.loadBits(1, 16);
                    x.setNoise(1, from, 101);
                    x.setNoise(1, to, 99);
                    checks.same("from " + from + " to " + to, x.suggest(1), 16 * from + to);
                }
            }
        }
    }

    /** "(the lowest number of equal ones)", twice */
    private void suggestionTies() {
        ToneLoader x = new ToneLoader();
        x.loadBits(0, 16);
        checks.same("0 of all, and 1 of the others", x.suggest(0), 1);
        x.setNoise(0, 4, 150);
        x.setNoise(0, 9, 151);
        checks.same("100 * 100 / 150 and / 151 are both 66", x.suggest(0), 4 * 16);
        x.setNoise(0, 9, 152);
        checks.same("65 is less", x.suggest(0), 9 * 16);
        x.setNoise(0, 2, 60);
        x.setNoise(0, 15, 60);
        checks.same("120 and 120", x.suggest(0), 9 * 16 + 2);
        x.setNoise(0, 15, 59);
        checks.same("118 is less", x.suggest(0), 9 * 16 + 15);
    }

    /** "of those below their limits" */
    private void suggestionUnderLimits() {
        ToneLoader x = Scenes.loaded();
        checks.same("tone 4", x.suggest(0), 4);
        x.setLimit(0, 4, 1);
        checks.same("tone 4 is at its limit", x.suggest(0), 5);
        x.setLimit(0, 4, 2);
        checks.same("tone 4 is below it", x.suggest(0), 4);
        x.request(0, 1, 4);
        x.deliver(0, 0, false);
        x.deliver(0, 1, false);
        x.setLimit(0, 4, 1);
        x.run(8);
        x.setNoise(0, 4, 1);
        checks.same("tone 4 is over it, tone 1 is cheapest now", x.suggest(0), 1);
    }

    /** A suggestion needs neither ends in step nor a request that is closed. */
    private void suggestionAnyTime() {
        checks.same("open", Scenes.requested().suggest(0), 4);
        checks.same("apart", Scenes.apart().suggest(0), 4);
    }

    /** "if no request is open" */
    private void resendNeedsAnOpenRequest() {
        edges.refused("none yet", Scenes::loaded, Edges.STATE, x -> x.resend(0));
        edges.refused("carried out", Scenes::apart, Edges.STATE, x -> x.resend(1));
        edges.answers("sent", Scenes.requested(), x -> x.resend(0), 0);
        edges.answers("answered", Scenes.bothOnWay(), x -> x.resend(0), 0);
        edges.answers("noted", Scenes.noted(), x -> x.resend(0), 0);
        edges.answers("the sender has swapped", Scenes.apart(), x -> x.resend(0), 0);
        ToneLoader x = Scenes.requested();
        x.deliver(0, 0, true);
        edges.answers("lost", x, y -> y.resend(0), 0);
        x.deliver(0, 0, true);
        edges.answers("lost again", x, y -> y.resend(0), 0);
        checks.same("at last", x.deliver(0, 0, false), 8);
    }

    /** "at most one request message"; "sending a further one replaces it" */
    private void resendReplacesTheMessage() {
        ToneLoader x = Scenes.requested();
        checks.same("again", x.resend(0), 0);
        checks.same("again", x.resend(0), 0);
        checks.same("one message", x.deliver(0, 0, false), 8);
        edges.answers("no second one", x, y -> y.deliver(0, 0, false), Edges.STATE);
        edges.answers("none to lose", x, y -> y.deliver(0, 0, true), Edges.STATE);
    }

    /** "a new agreement for the present frame plus 8" */
    private void eightFramesLater() {
        for (int frame : new int[] {0, 1, 7, 8, 1000}) {
            ToneLoader x = Scenes.requested();
            x.run(frame);
            checks.same("answered", x.deliver(0, 0, false), frame + 8);
            checks.same("noted", x.deliver(0, 1, false), frame + 8);
            x.run(7);
            checks.same("not before", x.bits(0, 5, 0), 1);
            checks.same("not before", x.bits(0, 5, 1), 1);
            x.run(1);
            checks.same("then", x.bits(0, 5, 0), 2);
            checks.same("then", x.bits(0, 5, 1), 2);
        }
    }

    private void lostRequest() {
        ToneLoader x = Scenes.requested();
        checks.same("NONE", x.deliver(0, 0, true), -1);
        edges.answers("no message any more", x, y -> y.deliver(0, 0, false), Edges.STATE);
        edges.answers("no answer", x, y -> y.deliver(0, 1, false), Edges.STATE);
        x.run(4);
        x.resend(0);
        checks.same("no agreement was made in frame 0", x.deliver(0, 0, false), 12);
    }

    private void lostAnswer() {
        ToneLoader x = Scenes.requested();
        x.deliver(0, 0, false);
        checks.same("NONE", x.deliver(0, 1, true), -1);
        edges.answers("no message any more", x, y -> y.deliver(0, 1, false), Edges.STATE);
        x.run(20);
        checks.same("the receiver has noted nothing", x.bits(0, 5, 0), 1);
        checks.same("the sender has swapped", x.bits(0, 5, 1), 2);
    }

    /** "it answers with the frame of this agreement again" */
    private void sameAgreementAgain() {
        ToneLoader x = Scenes.requested();
        checks.same("first", x.deliver(0, 0, false), 8);
        for (int frame : new int[] {0, 7, 1, 1, 991}) {
            x.run(frame);
            x.resend(0);
            checks.same("the same frame", x.deliver(0, 0, false), 8);
        }
        checks.same("the sender has swapped once", x.bits(0, 5, 1), 2);
        checks.same("noted long after", x.deliver(0, 1, false), 8);
        x.run(1);
        checks.same("carried out at once", x.inStep(0), true);
        Scenes.Scene old = () -> {
            ToneLoader y = Scenes.noted();
            y.run(5);
            return y;
        };
        edges.answers("a message that comes after the swap", old.make(),
                y -> y.deliver(0, 0, false), 8);
    }

    /** The number is 0 again after 7, but the agreement made last has the number 7. */
    private void newAgreementForTheNumberAfterSeven() {
        ToneLoader x = Scenes.loaded();
        for (int i = 0; i < 8; i++) {
            swap(x, 0, i % 2, 1 - i % 2);
        }
        checks.same("number 0", x.request(0, 2, 9), 0);
        checks.same("a new frame", x.deliver(0, 0, false), 72);
        checks.same("noted", x.deliver(0, 1, false), 72);
        x.run(8);
        checks.same("the new tones", x.bits(0, 9, 0), 2);
        checks.same("the new tones", x.bits(0, 9, 1), 2);
    }

    /** The number is 0 again, but the agreement with that number has been dropped. */
    private void newAgreementAfterALoad() {
        ToneLoader x = Scenes.requested();
        x.deliver(0, 0, false);
        x.run(3);
        x.loadBits(0, 20);
        checks.same("number 0", x.request(0, 1, 6), 0);
        checks.same("a new frame", x.deliver(0, 0, false), 11);
        checks.same("noted", x.deliver(0, 1, false), 11);
        x.run(5);
        checks.same("the dropped agreement is not carried out", x.inStep(0), true);
        x.run(3);
        checks.same("the new one is", x.bits(0, 6, 1), 2);
        checks.same("the tones of the old one stay", x.bits(0, 5, 1), 1);
        checks.same("in step", x.inStep(0), true);
    }

    /** "if it has no open request with the number of the answer, the message has no effect" */
    private void answerWithoutAnOpenRequest() {
        ToneLoader x = Scenes.noted();
        x.run(5);
        checks.same("the old request is answered again", x.deliver(0, 0, false), 8);
        checks.same("NONE", x.deliver(0, 1, false), -1);
        edges.answers("no message any more", x, y -> y.deliver(0, 1, false), Edges.STATE);
        checks.same("one swap only", x.bits(0, 5, 0), 2);
        x.run(10);
        checks.same("one swap only", x.bits(0, 5, 0), 2);
        checks.same("number", x.request(0, 1, 6), 1);
    }

    private void answerToAnotherRequest() {
        ToneLoader x = Scenes.noted();
        x.run(5);
        x.deliver(0, 0, false);
        checks.same("request 1", x.request(0, 1, 6), 1);
        checks.same("answer 0", x.deliver(0, 1, false), -1);
        x.run(20);
        checks.same("nothing was noted", x.bits(0, 6, 0), 1);
        checks.same("still open", x.resend(0), 1);
        checks.same("its own agreement", x.deliver(0, 0, false), 36);
        checks.same("its own answer", x.deliver(0, 1, false), 36);
    }

    /** "at most one answer message"; the answer to request 0 gives way to that to request 1. */
    private void answerIsReplaced() {
        ToneLoader x = Scenes.noted();
        x.run(5);
        checks.same("answer 0", x.deliver(0, 0, false), 8);
        x.request(0, 1, 6);
        checks.same("answer 1", x.deliver(0, 0, false), 16);
        checks.same("answer 1 is there", x.deliver(0, 1, false), 16);
        edges.answers("answer 0 is not", x, y -> y.deliver(0, 1, false), Edges.STATE);
        ToneLoader y = Scenes.bothOnWay();
        y.deliver(0, 0, false);
        checks.same("one answer", y.deliver(0, 1, true), -1);
        edges.answers("no second one", y, z -> z.deliver(0, 1, false), Edges.STATE);
    }

    /** The message of request 0, sent again and not yet delivered, gives way to request 1. */
    private void requestMessageIsReplaced() {
        ToneLoader x = Scenes.noted();
        x.run(5);
        x.request(0, 1, 6);
        checks.same("request 1 is there", x.deliver(0, 0, false), 16);
        edges.answers("request 0 is not", x, y -> y.deliver(0, 0, false), Edges.STATE);
        checks.same("noted", x.deliver(0, 1, false), 16);
        x.run(8);
        checks.same("the tones of request 1", x.bits(0, 6, 1), 2);
        checks.same("request 0 once", x.bits(0, 5, 1), 2);
        checks.same("in step", x.inStep(0), true);
    }
}
