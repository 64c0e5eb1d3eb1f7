/** "If several exceptions apply, the one that is listed first is thrown", and nothing changes. */
public final class FirstListedTest {
    private final Checks checks = new Checks("FirstListedTest");
    private final Edges edges = new Edges(checks);

    public static void main(String[] args) {
        FirstListedTest test = new FirstListedTest();
        test.setters();
        test.loads();
        test.bits();
        test.request();
        test.resend();
        test.deliver();
        test.checks.end();
    }

    private void setters() {
        for (int pair : new int[] {-1, 2}) {
            edges.refusedEverywhere("setNoise: pair before noise", Edges.INDEX,
                    x -> x.setNoise(pair, 0, 0));
            edges.refusedEverywhere("setCoupling: pair before coupling", Edges.INDEX,
                    x -> x.setCoupling(pair, 0, 1001));
            edges.refusedEverywhere("setLimit: pair before limit", Edges.INDEX,
                    x -> x.setLimit(pair, 0, 13));
            edges.refusedEverywhere("setLimit: pair before bits", Edges.INDEX,
                    x -> x.setLimit(pair, 0, 0));
            edges.refusedEverywhere("setBudget: pair before budget", Edges.INDEX,
                    x -> x.setBudget(pair, -1));
        }
        for (int tone : new int[] {-1, 16}) {
            edges.refusedEverywhere("setNoise: tone before noise", Edges.INDEX,
                    x -> x.setNoise(0, tone, 10001));
            edges.refusedEverywhere("setCoupling: tone before coupling", Edges.INDEX,
                    x -> x.setCoupling(0, tone, -1));
            edges.refusedEverywhere("setLimit: tone before limit", Edges.INDEX,
                    x -> x.setLimit(0, tone, -1));
        }
        edges.refusedEverywhere("setLimit: -1 is out of range before it is less than the bits",
                Edges.ARGUMENT, x -> x.setLimit(0, 0, -1));
    }

    private void loads() {
        edges.refusedEverywhere("loadBits: pair before target", Edges.INDEX,
                x -> x.loadBits(2, 193));
        edges.refusedEverywhere("loadBits: pair before target", Edges.INDEX,
                x -> x.loadBits(-1, -1));
        edges.refused("loadBits: pair before a loading that fails", Scenes::toneZeroAlone,
                Edges.INDEX, x -> x.loadBits(2, 192));
        edges.refused("loadBits: target before a loading that fails", Scenes::toneZeroAlone,
                Edges.ARGUMENT, x -> x.loadBits(0, 193));
        edges.refused("loadBits: the loading fails", Scenes::toneZeroAlone,
                Edges.STATE, x -> x.loadBits(0, 192));
    }

    private void bits() {
        edges.refusedEverywhere("bits: pair before end", Edges.INDEX, x -> x.bits(2, 0, 2));
        edges.refusedEverywhere("bits: pair before end", Edges.INDEX, x -> x.bits(-1, 0, -1));
        edges.refusedEverywhere("bits: tone before end", Edges.INDEX, x -> x.bits(0, 16, 2));
        edges.refusedEverywhere("bits: tone before end", Edges.INDEX, x -> x.bits(0, -1, -1));
    }

    private void request() {
        edges.refusedEverywhere("request: pair before the same tones", Edges.INDEX,
                x -> x.request(2, 3, 3));
        edges.refusedEverywhere("request: tones before the same tones", Edges.INDEX,
                x -> x.request(0, 16, 16));
        edges.refusedEverywhere("request: tones before the same tones", Edges.INDEX,
                x -> x.request(1, -1, -1));
        // In these scenes a request is refused for its state: no bits, open, apart, or full.
        Scenes.Scene[] refusing = {ToneLoader::new, Scenes::requested, Scenes::noted,
            Scenes::apart, Scenes::crowded};
        for (Scenes.Scene scene : refusing) {
            edges.refused("request: state", scene, Edges.STATE, x -> x.request(0, 5, 6));
            edges.refused("request: the same tones before the state", scene, Edges.ARGUMENT,
                    x -> x.request(0, 6, 6));
            edges.refused("request: pair before the state", scene, Edges.INDEX,
                    x -> x.request(2, 5, 6));
            edges.refused("request: from before the state", scene, Edges.INDEX,
                    x -> x.request(0, 16, 6));
            edges.refused("request: to before the state", scene, Edges.INDEX,
                    x -> x.request(0, 5, -1));
        }
    }

    private void resend() {
        Scenes.Scene[] closed = {ToneLoader::new, Scenes::loaded, Scenes::crowded};
        for (Scenes.Scene scene : closed) {
            edges.refused("resend: no request is open", scene, Edges.STATE, x -> x.resend(1));
            edges.refused("resend: pair before that", scene, Edges.INDEX, x -> x.resend(2));
        }
    }

    private void deliver() {
        edges.refusedEverywhere("deliver: pair before message", Edges.INDEX,
                x -> x.deliver(2, 2, false));
        edges.refusedEverywhere("deliver: pair before message", Edges.INDEX,
                x -> x.deliver(-1, -1, true));
        Scenes.Scene[] silent = {ToneLoader::new, Scenes::loaded, Scenes::apart, Scenes::crowded};
        for (Scenes.Scene scene : silent) {
            for (int message = 0; message < 2; message++) {
                int m = message;
                edges.refused("deliver: nothing on its way", scene, Edges.STATE,
                        x -> x.deliver(0, m, false));
                edges.refused("deliver: nothing on its way to be lost", scene, Edges.STATE,
                        x -> x.deliver(1, m, true));
                edges.refused("deliver: pair before nothing on its way", scene, Edges.INDEX,
                        x -> x.deliver(2, m, false));
            }
            edges.refused("deliver: message before nothing on its way", scene, Edges.ARGUMENT,
                    x -> x.deliver(0, 2, false));
            edges.refused("deliver: message before nothing on its way", scene, Edges.ARGUMENT,
                    x -> x.deliver(0, -1, true));
        }
    }
}
