import java.util.ArrayList;
import java.util.List;

/**
 * Every argument of every call: the last value that is taken and the first that is refused, at
 * both ends of its range, with what is thrown beyond it and that the refused call left no trace.
 */
public final class RangesTest {
    /** A call with one argument left open. */
    private interface NumberCall {
        Object on(ToneLoader x, int value);
    }

    private final Checks checks = new Checks("RangesTest");
    private final Edges edges = new Edges(checks);

    public static void main(String[] args) {
        RangesTest test = new RangesTest();
        test.pairsOfSettersAndLoads();
        test.pairsOfValues();
        test.pairsOfSwaps();
        test.tones();
        test.noise();
        test.coupling();
        test.limit();
        test.budget();
        test.target();
        test.rounds();
        test.end();
        test.message();
        test.frames();
        test.checks.end();
    }

    private void range(String what, Scenes.Scene scene, Class<?> due, int least, int most,
            NumberCall call) {
        for (int value : new int[] {least, most}) {
            Object answer = Edges.answer(scene.make(), x -> call.on(x, value));
            checks.same(what + " takes " + value, answer instanceof Class, false);
        }
        for (int value : wrongValues(least, most)) {
            edges.refusedEverywhere(what + " = " + value, due, x -> call.on(x, value));
        }
    }

    /** Just outside, far outside, and values that wrap around to a right one in fewer bits. */
    private static List<Integer> wrongValues(int least, int most) {
        List<Integer> wrong = new ArrayList<>(List.of(least - 1, most + 1, Integer.MIN_VALUE,
                Integer.MAX_VALUE, Integer.MIN_VALUE + most));
        if (most < 65536) {
            wrong.add(65536 + most);
        }
        return wrong;
    }

    private void pair(String what, Scenes.Scene scene, NumberCall call) {
        range(what + " pair", scene, Edges.INDEX, 0, 1, call);
    }

    private void tone(String what, Scenes.Scene scene, NumberCall call) {
        range(what + " tone", scene, Edges.INDEX, 0, 15, call);
    }

    private void pairsOfSettersAndLoads() {
        pair("setNoise", ToneLoader::new, (x, v) -> x.setNoise(v, 3, 200));
        pair("setCoupling", ToneLoader::new, (x, v) -> x.setCoupling(v, 3, 200));
        pair("setLimit", ToneLoader::new, (x, v) -> x.setLimit(v, 3, 2));
        pair("setBudget", ToneLoader::new, (x, v) -> x.setBudget(v, 200));
        pair("loadRate", ToneLoader::new, (x, v) -> x.loadRate(v));
        pair("loadBits", ToneLoader::new, (x, v) -> x.loadBits(v, 2));
        pair("repair", ToneLoader::new, (x, v) -> x.repair(v));
    }

    private void pairsOfValues() {
        pair("bits", ToneLoader::new, (x, v) -> x.bits(v, 3, 0));
        pair("rate", ToneLoader::new, (x, v) -> x.rate(v));
        pair("energy", ToneLoader::new, (x, v) -> x.energy(v, 3));
        pair("totalEnergy", ToneLoader::new, (x, v) -> x.totalEnergy(v));
        pair("disturbedNoise", ToneLoader::new, (x, v) -> x.disturbedNoise(v, 3));
        pair("margin", ToneLoader::new, (x, v) -> x.margin(v, 3));
        pair("leastMargin", ToneLoader::new, (x, v) -> x.leastMargin(v));
        pair("badTones", ToneLoader::new, (x, v) -> x.badTones(v));
        pair("isEfficient", ToneLoader::new, (x, v) -> x.isEfficient(v));
        pair("meanBits", ToneLoader::new, (x, v) -> x.meanBits(v));
    }

    private void pairsOfSwaps() {
        pair("request", Scenes::loaded, (x, v) -> x.request(v, 0, 1));
        pair("suggest", Scenes::loaded, (x, v) -> x.suggest(v));
        pair("resend", Scenes::requested, (x, v) -> x.resend(v));
        pair("deliver request", Scenes::bothOnWay, (x, v) -> x.deliver(v, 0, false));
        pair("deliver answer", Scenes::bothOnWay, (x, v) -> x.deliver(v, 1, false));
        pair("lose request", Scenes::bothOnWay, (x, v) -> x.deliver(v, 0, true));
        pair("lose answer", Scenes::bothOnWay, (x, v) -> x.deliver(v, 1, true));
        pair("inStep", ToneLoader::new, (x, v) -> x.inStep(v));
        pair("brokenFrames", ToneLoader::new, (x, v) -> x.brokenFrames(v));
    }

    private void tones() {
        tone("setNoise", ToneLoader::new, (x, v) -> x.setNoise(1, v, 200));
        tone("setCoupling", ToneLoader::new, (x, v) -> x.setCoupling(1, v, 200));
        tone("setLimit", ToneLoader::new, (x, v) -> x.setLimit(1, v, 2));
        tone("bits", ToneLoader::new, (x, v) -> x.bits(1, v, 1));
        tone("energy", ToneLoader::new, (x, v) -> x.energy(1, v));
        tone("disturbedNoise", ToneLoader::new, (x, v) -> x.disturbedNoise(1, v));
        tone("margin", ToneLoader::new, (x, v) -> x.margin(1, v));
        tone("request from", Scenes::loaded, (x, v) -> x.request(1, v, 7));
        tone("request to", Scenes::loaded, (x, v) -> x.request(1, 7, v));
    }

    /** What is set at an edge is there: the next setting answers it. */
    private void setAndSetAgain(String what, int first, int edge, NumberCall setting) {
        ToneLoader x = new ToneLoader();
        checks.same(what + " before", setting.on(x, edge), first);
        checks.same(what + " " + edge, setting.on(x, edge), edge);
    }

    private void noise() {
        NumberCall setting = (x, v) -> x.setNoise(0, 15, v);
        range("noise", ToneLoader::new, Edges.ARGUMENT, 1, 10000, setting);
        setAndSetAgain("noise", 100, 1, setting);
        setAndSetAgain("noise", 100, 10000, setting);
    }

    private void coupling() {
        NumberCall setting = (x, v) -> x.setCoupling(1, 15, v);
        range("coupling", ToneLoader::new, Edges.ARGUMENT, 0, 1000, setting);
        setAndSetAgain("coupling", 0, 0, setting);
        setAndSetAgain("coupling", 0, 1000, setting);
    }

    private void limit() {
        NumberCall setting = (x, v) -> x.setLimit(0, 15, v);
        range("limit", ToneLoader::new, Edges.ARGUMENT, 0, 12, setting);
        setAndSetAgain("limit", 12, 0, setting);
        setAndSetAgain("limit", 12, 12, setting);
    }

    private void budget() {
        NumberCall setting = (x, v) -> x.setBudget(1, v);
        range("budget", ToneLoader::new, Edges.ARGUMENT, 0, 1000000000, setting);
        setAndSetAgain("budget", 1000000, 0, setting);
        setAndSetAgain("budget", 1000000, 1000000000, setting);
    }

    private void target() {
        range("target", ToneLoader::new, Edges.ARGUMENT, 0, 192, (x, v) -> x.loadBits(0, v));
    }

    private void rounds() {
        range("rounds", Scenes::crowded, Edges.ARGUMENT, 1, 20, (x, v) -> x.balance(v));
    }

    private void end() {
        range("end", Scenes::apart, Edges.ARGUMENT, 0, 1, (x, v) -> x.bits(0, 15, v));
    }

    private void message() {
        range("message", Scenes::bothOnWay, Edges.ARGUMENT, 0, 1,
                (x, v) -> x.deliver(0, v, false));
        range("lost message", Scenes::bothOnWay, Edges.ARGUMENT, 0, 1,
                (x, v) -> x.deliver(1, v, true));
    }

    private void frames() {
        range("frames", Scenes::noted, Edges.ARGUMENT, 0, 1000, (x, v) -> x.run(v));
    }
}
