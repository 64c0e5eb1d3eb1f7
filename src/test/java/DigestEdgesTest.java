import java.util.Arrays;

/** The edges of promise 28: each value in its place, present or not, and the overflow. */
public final class DigestEdgesTest {
    /** What the digest is made of, for one pair. */
    private static final class Line {
        final int[] noise = new int[16];
        final int[] coupling = new int[16];
        final int[] limit = new int[16];
        final int[] receiver = new int[16];
        final int[] sender = new int[16];
        final long[] energy = new long[16];
        final long[] margin = new long[16];
        boolean efficient = true;
        int broken = 0;
        int budget = 1000000;
        // Number, from, to and noted frame of the open request.
        int[] open = {};
        boolean requestOnWay = false;
        boolean answerOnWay = false;

        Line() {
            Arrays.fill(noise, 100);
            Arrays.fill(limit, 12);
            Arrays.fill(margin, -1);
        }
    }

    private final Checks checks = new Checks("DigestEdgesTest");
    private Line[] lines;
    private long hash;

    public static void main(String[] args) {
        DigestEdgesTest test = new DigestEdgesTest();
        test.newObject();
        test.savedStates();
        test.framesAndBrokenFrames();
        test.settings();
        test.marginsAndTheGreatestEnergy();
        test.efficientOrNot();
        test.openRequest();
        test.lastNumberAndTones();
        test.messages();
        test.closedRequest();
        test.digestChangesNothing();
        test.checks.end();
    }

    private void begin() {
        lines = new Line[] {new Line(), new Line()};
    }

    private void put(long value) {
        hash = 31 * hash + value;
    }

    /** Takes over what other calls answer; dear, so only where it has changed. */
    private void readTables(ToneLoader x) {
        for (int pair = 0; pair < 2; pair++) {
            Line line = lines[pair];
            for (int tone = 0; tone < 16; tone++) {
                line.receiver[tone] = x.bits(pair, tone, 0);
                line.sender[tone] = x.bits(pair, tone, 1);
                line.energy[tone] = x.energy(pair, tone);
                line.margin[tone] = x.margin(pair, tone);
            }
            line.efficient = x.isEfficient(pair);
            line.broken = x.brokenFrames(pair);
        }
    }

    private void check(String what, ToneLoader x, int frames, int saved) {
        hash = 2789;
        put(frames);
        for (Line line : lines) {
            putLine(line);
        }
        put(saved);
        checks.same(what, x.digest(), hash);
    }

    private void putLine(Line line) {
        put(line.budget);
        for (int tone = 0; tone < 16; tone++) {
            put(line.noise[tone]);
            put(line.coupling[tone]);
            put(line.limit[tone]);
            put(line.receiver[tone]);
            put(line.sender[tone]);
            put(line.energy[tone]);
            put(line.margin[tone]);
        }
        put(line.efficient ? 1 : 0);
        put(line.open.length == 0 ? 0 : 1);
        for (int value : line.open) {
            put(value);
        }
        put(line.requestOnWay ? 1 : 0);
        put(line.answerOnWay ? 1 : 0);
        put(line.broken);
    }

    private void newObject() {
        begin();
        check("a new object", new ToneLoader(), 0, 0);
    }

    /** "the number of saved states": 0 to 4, and one less behind an undo */
    private void savedStates() {
        begin();
        ToneLoader x = new ToneLoader();
        for (int calls = 1; calls <= 6; calls++) {
            x.run(0);
            check(calls + " calls", x, 0, Math.min(calls, 4));
        }
        for (int left = 3; left >= 0; left--) {
            x.undo();
            check(left + " left", x, 0, left);
        }
    }

    private void framesAndBrokenFrames() {
        begin();
        ToneLoader x = Scenes.apart();
        lines[0].open = new int[] {0, 0, 5, -1};
        readTables(x);
        checks.same("broken frames", lines[0].broken, 3);
        check("frame 10", x, 10, 4);
        x.run(1000);
        lines[0].broken = 1003;
        check("frame 1010", x, 1010, 4);
    }

    /** Each setting at both ends of its range, for the first and the last tone of both pairs. */
    private void settings() {
        for (int pair = 0; pair < 2; pair++) {
            for (int tone = 0; tone < 16; tone += 15) {
                for (int end = 0; end < 2; end++) {
                    begin();
                    ToneLoader x = new ToneLoader();
                    lines[pair].noise[tone] = end == 0 ? 1 : 10000;
                    x.setNoise(pair, tone, lines[pair].noise[tone]);
                    check("noise", x, 0, 1);
                    lines[pair].coupling[tone] = end == 0 ? 0 : 1000;
                    x.setCoupling(pair, tone, lines[pair].coupling[tone]);
                    check("coupling", x, 0, 2);
                    lines[pair].limit[tone] = end == 0 ? 0 : 12;
                    x.setLimit(pair, tone, lines[pair].limit[tone]);
                    check("limit", x, 0, 3);
                    lines[pair].budget = end == 0 ? 0 : 1000000000;
                    x.setBudget(pair, lines[pair].budget);
                    check("budget", x, 0, 4);
                }
            }
        }
    }

    /** "energy, and margin (NONE if it has none)"; "the overflow of long arithmetic ignored" */
    private void marginsAndTheGreatestEnergy() {
        begin();
        ToneLoader x = new ToneLoader();
        for (int pair = 0; pair < 2; pair++) {
            lines[pair].noise[0] = 10000;
            lines[pair].coupling[0] = 1000;
            x.setNoise(pair, 0, 10000);
            x.setCoupling(pair, 0, 1000);
        }
        for (int i = 0; i < 5; i++) {
            x.loadBits(i % 2, 192);
        }
        readTables(x);
        checks.same("the greatest energy", x.energy(0, 0), 1000000000000L);
        checks.same("a margin of 0", x.margin(0, 0), 0);
        check("a margin of 0", x, 0, 4);
        x.loadBits(0, 0);
        readTables(x);
        checks.same("no margin", x.margin(0, 0), -1);
        check("no margin", x, 0, 4);
        lines[1].noise[0] = 1;
        x.setNoise(1, 0, 1);
        readTables(x);
        checks.same("a great margin", x.margin(1, 0), 100000000000000L / 4095);
        check("a great margin", x, 0, 4);
    }

    private void efficientOrNot() {
        for (int pair = 0; pair < 2; pair++) {
            begin();
            ToneLoader x = Scenes.loaded();
            lines[pair].noise[7] = 1000;
            x.setNoise(pair, 7, 1000);
            readTables(x);
            checks.same("not efficient", x.isEfficient(pair), false);
            checks.same("efficient", x.isEfficient(1 - pair), true);
            check("efficient or not", x, 0, 3);
        }
    }

    /** "its number, its two tones, and the noted frame (NONE if none is noted)" */
    private void openRequest() {
        for (int pair = 0; pair < 2; pair++) {
            begin();
            ToneLoader x = Scenes.loaded();
            readTables(x);
            x.request(pair, 1, 6);
            lines[pair].open = new int[] {0, 1, 6, -1};
            lines[pair].requestOnWay = true;
            check("open", x, 0, 3);
            x.deliver(pair, 0, false);
            lines[pair].requestOnWay = false;
            lines[pair].answerOnWay = true;
            check("answered", x, 0, 4);
            x.deliver(pair, 1, false);
            lines[pair].open = new int[] {0, 1, 6, 8};
            lines[pair].answerOnWay = false;
            check("noted", x, 0, 4);
            x.run(7);
            check("frame 7", x, 7, 4);
            x.run(1);
            readTables(x);
            lines[pair].open = new int[] {};
            check("frame 8", x, 8, 4);
        }
    }

    private void lastNumberAndTones() {
        begin();
        ToneLoader x = Scenes.loaded();
        for (int i = 0; i < 7; i++) {
            x.request(1, 14 + i % 2, 15 - i % 2);
            x.deliver(1, 0, false);
            x.deliver(1, 1, false);
            x.run(8);
        }
        checks.same("number 7", x.request(1, 15, 0), 7);
        readTables(x);
        lines[1].open = new int[] {7, 15, 0, -1};
        lines[1].requestOnWay = true;
        check("number 7", x, 56, 4);
    }

    private void messages() {
        begin();
        ToneLoader x = Scenes.bothOnWay();
        readTables(x);
        lines[0].open = new int[] {0, 0, 5, -1};
        lines[1].open = new int[] {0, 1, 6, -1};
        for (Line line : lines) {
            line.requestOnWay = true;
            line.answerOnWay = true;
        }
        check("both on their way", x, 3, 4);
        x.deliver(0, 0, true);
        lines[0].requestOnWay = false;
        check("the request of pair 0 lost", x, 3, 4);
        x.deliver(1, 1, true);
        lines[1].answerOnWay = false;
        check("the answer of pair 1 lost", x, 3, 4);
        x.deliver(0, 1, false);
        lines[0].answerOnWay = false;
        lines[0].open[3] = 8;
        check("the answer of pair 0 noted", x, 3, 4);
        x.deliver(1, 0, false);
        lines[1].requestOnWay = false;
        lines[1].answerOnWay = true;
        check("the request of pair 1 answered", x, 3, 4);
    }

    /** A request that is closed, by its swap or by a load, leaves no number and no tones. */
    private void closedRequest() {
        begin();
        ToneLoader x = Scenes.noted();
        x.run(5);
        readTables(x);
        lines[0].requestOnWay = true;
        lines[1].requestOnWay = true;
        check("swapped, with old messages", x, 8, 4);
        x.deliver(0, 0, false);
        lines[0].requestOnWay = false;
        lines[0].answerOnWay = true;
        check("an old request answered", x, 8, 4);
        x.deliver(0, 1, false);
        lines[0].answerOnWay = false;
        check("an answer without effect", x, 8, 4);
        begin();
        ToneLoader y = Scenes.noted();
        y.balance(1);
        readTables(y);
        check("all talk dropped", y, 3, 4);
    }

    private void digestChangesNothing() {
        for (Scenes.Scene scene : Scenes.all().values()) {
            ToneLoader x = scene.make();
            long first = x.digest();
            checks.same("again", x.digest(), first);
            checks.same("of another object", scene.make().digest(), first);
        }
    }
}
