/** The edges of promises 10 to 19: the least and the greatest values, none at all, rounding. */
public final class ValueEdgesTest {
    private static final long MOST_ENERGY = 1000000000000L;

    private final Checks checks = new Checks("ValueEdgesTest");

    public static void main(String[] args) {
        ValueEdgesTest test = new ValueEdgesTest();
        test.bitsFromNoneToTwelve();
        test.bitsOfBothEnds();
        test.rateFromNoneToAll();
        test.energyFromNoneToTheGreatest();
        test.needOfEachNumberOfBits();
        test.disturbanceIsRoundedDown();
        test.leastAndGreatestNoise();
        test.disturbedByTheSameToneOfTheOtherPair();
        test.noMarginWithoutBits();
        test.marginIsRoundedDown();
        test.marginOfZero();
        test.greatestMargin();
        test.marginLooksAtTheReceiver();
        test.leastMarginOfNone();
        test.leastMarginOfOneTone();
        test.badBelowAHundred();
        test.badTonesOfNoneAndAll();
        test.efficientEdges();
        test.meanBitsEdges();
        test.valuesLeaveNoTrace();
        test.checks.end();
    }

    private static ToneLoader loaded(int target) {
        ToneLoader x = new ToneLoader();
        x.loadBits(0, target);
        return x;
    }

    private static ToneLoader toneZeroLoaded(int noise, int target) {
        ToneLoader x = Scenes.toneZeroAlone();
        x.setNoise(0, 0, noise);
        x.loadBits(0, target);
        return x;
    }

    private void bitsFromNoneToTwelve() {
        for (int target = 0; target <= 12; target++) {
            ToneLoader x = toneZeroLoaded(100, target);
            checks.same("the receiver", x.bits(0, 0, 0), target);
            checks.same("the sender", x.bits(0, 0, 1), target);
            checks.same("another tone", x.bits(0, 1, 0), 0);
            checks.same("another pair", x.bits(1, 0, 0), 0);
        }
    }

    /** "0 for the copy of the receiver, 1 for that of the sender" */
    private void bitsOfBothEnds() {
        ToneLoader x = Scenes.apart();
        checks.same("the receiver has not swapped", x.bits(0, 0, 0), 2);
        checks.same("the receiver has not swapped", x.bits(0, 5, 0), 1);
        checks.same("the sender has", x.bits(0, 0, 1), 1);
        checks.same("the sender has", x.bits(0, 5, 1), 2);
    }

    private void rateFromNoneToAll() {
        for (int target = 0; target <= 192; target++) {
            checks.same("rate", loaded(target).rate(0), target);
        }
        checks.same("the rate of the other pair", loaded(192).rate(1), 0);
        checks.same("the ends differ, their sums do not", Scenes.apart().rate(0), 20);
    }

    private void energyFromNoneToTheGreatest() {
        ToneLoader x = toneZeroLoaded(10000, 12);
        checks.same("12 bits of the greatest noise", x.energy(0, 0), 40950000);
        checks.same("a tone without bits", x.energy(0, 1), 0);
        x.setCoupling(1, 0, 1000);
        checks.same("disturbed", x.loadBits(1, 12), 4095 * 40950100L);
        x.setCoupling(0, 0, 1000);
        checks.same("the greatest", x.loadBits(0, 12), MOST_ENERGY);
        checks.same("the greatest", x.energy(0, 0), MOST_ENERGY);
        checks.same("the sum", x.totalEnergy(0), MOST_ENERGY);
        checks.same("least", toneZeroLoaded(1, 1).energy(0, 0), 1);
        checks.same("nothing", new ToneLoader().totalEnergy(0), 0);
    }

    /** "The need for b bits on a tone is (2^b - 1) * (disturbed noise)." */
    private void needOfEachNumberOfBits() {
        int[] needs = {0, 1, 3, 7, 15, 31, 63, 127, 255, 511, 1023, 2047, 4095};
        for (int bits = 0; bits <= 12; bits++) {
            checks.same("noise 1", toneZeroLoaded(1, bits).energy(0, 0), needs[bits]);
            checks.same("noise 7", toneZeroLoaded(7, bits).energy(0, 0), 7 * needs[bits]);
        }
    }

    /** "coupling * e / 1000 (rounded down)" */
    private void disturbanceIsRoundedDown() {
        int[][] rows = {
            {999, 1, 100}, {1000, 1, 101}, {1001, 1, 101}, {1999, 1, 101}, {2000, 1, 102},
            {1, 999, 100}, {1, 1000, 101}, {2, 999, 101}, {3, 333, 100}, {3, 334, 101},
            {10000, 0, 100}, {10000, 1000, 10100}, {9999, 999, 10089},
        };
        for (int[] row : rows) {
            ToneLoader x = toneZeroLoaded(row[0], 1);
            x.setCoupling(1, 0, row[1]);
            checks.same(row[1] + " * " + row[0], x.disturbedNoise(1, 0), row[2]);
        }
    }

    private void leastAndGreatestNoise() {
        ToneLoader x = new ToneLoader();
        x.setNoise(1, 15, 1);
        checks.same("the least", x.disturbedNoise(1, 15), 1);
        x.setCoupling(1, 15, 1000);
        checks.same("no energy disturbs nothing", x.disturbedNoise(1, 15), 1);
        ToneLoader y = toneZeroLoaded(10000, 12);
        y.setCoupling(0, 0, 1000);
        y.setCoupling(1, 0, 1000);
        y.setNoise(1, 0, 10000);
        y.loadBits(1, 12);
        y.loadBits(0, 12);
        checks.same("the greatest", y.disturbedNoise(1, 0), MOST_ENERGY + 10000);
        y.setCoupling(1, 0, 999);
        checks.same("999 thousandths", y.disturbedNoise(1, 0), 999000000000L + 10000);
        y.setCoupling(1, 0, 0);
        checks.same("no coupling", y.disturbedNoise(1, 0), 10000);
    }

    /** "the present energy of the same tone of the other pair"; the pair that is disturbed. */
    private void disturbedByTheSameToneOfTheOtherPair() {
        for (int pair = 0; pair < 2; pair++) {
            ToneLoader x = new ToneLoader();
            for (int tone = 0; tone < 16; tone++) {
                x.setNoise(1 - pair, tone, 1000 * (tone % 10) + 500);
                x.setCoupling(pair, tone, 1000);
            }
            x.loadBits(1 - pair, 100);
            for (int tone = 0; tone < 16; tone++) {
                checks.same("disturbed", x.disturbedNoise(pair, tone),
                        100 + x.energy(1 - pair, tone));
                checks.same("not disturbed", x.disturbedNoise(1 - pair, tone),
                        1000 * (tone % 10) + 500);
            }
            x.undo();
            checks.same("the present energy", x.disturbedNoise(pair, 3), 100);
        }
    }

    /** "a tone without bits has no margin" */
    private void noMarginWithoutBits() {
        ToneLoader x = loaded(15);
        checks.same("none", x.margin(0, 15), -1);
        checks.same("NONE", x.margin(0, 15), ToneLoader.NONE);
        checks.same("one bit", x.margin(0, 14), 100);
        x.setNoise(0, 15, 10000);
        checks.same("still none", x.margin(0, 15), -1);
        x.request(0, 14, 15);
        x.deliver(0, 0, false);
        x.deliver(0, 1, false);
        x.run(8);
        checks.same("the bit has gone", x.margin(0, 14), -1);
        checks.same("the bit has come", x.margin(0, 15), 100);
    }

    /** "100 * (its energy) / (the need for its bits), rounded down" */
    private void marginIsRoundedDown() {
        int[][] rows = {
            {100, 100}, {101, 99}, {99, 101}, {199, 50}, {200, 50}, {201, 49}, {5000, 2},
            {5001, 1}, {10000, 1}, {50, 200}, {51, 196}, {1, 10000}, {3, 3333},
        };
        for (int bits = 1; bits <= 12; bits += 11) {
            for (int[] row : rows) {
                ToneLoader x = toneZeroLoaded(100, bits);
                x.setNoise(0, 0, row[0]);
                checks.same("margin at noise " + row[0], x.margin(0, 0), row[1]);
                checks.same("least margin", x.leastMargin(0), row[1]);
                checks.same("bad", x.badTones(0), row[1] < 100 ? 1 : 0);
            }
        }
    }

    /** A margin of 0 is not the same as none. */
    private void marginOfZero() {
        ToneLoader x = toneZeroLoaded(99, 1);
        x.setNoise(0, 0, 9900);
        checks.same("one hundredth", x.margin(0, 0), 1);
        x.setNoise(0, 0, 9901);
        checks.same("less", x.margin(0, 0), 0);
        checks.same("the pair", x.leastMargin(0), 0);
        checks.same("bad", x.badTones(0), 1);
        x.setLimit(0, 4, 1);
        checks.same("a swap away from it", x.suggest(0), 4);
    }

    /** All of the greatest energy for one bit of noise 1. */
    private void greatestMargin() {
        ToneLoader x = toneZeroLoaded(10000, 12);
        x.setCoupling(0, 0, 1000);
        x.setCoupling(1, 0, 1000);
        x.loadBits(1, 12);
        x.loadBits(0, 12);
        x.loadBits(1, 1);
        checks.same("one bit of the greatest energy", x.energy(1, 0), MOST_ENERGY);
        x.setCoupling(1, 0, 0);
        x.setNoise(1, 0, 1);
        checks.same("the greatest margin", x.margin(1, 0), 100 * MOST_ENERGY);
        checks.same("the pair's", x.leastMargin(1), 100 * MOST_ENERGY);
        checks.same("not bad", x.badTones(1), 0);
    }

    private void marginLooksAtTheReceiver() {
        ToneLoader x = Scenes.apart();
        checks.same("2 bits here, 1 there", x.margin(0, 0), 100);
        checks.same("1 bit here, 2 there", x.margin(0, 5), 100);
        checks.same("not bad", x.badTones(0), 0);
    }

    private void leastMarginOfNone() {
        ToneLoader x = new ToneLoader();
        checks.same("no tone has bits", x.leastMargin(0), -1);
        x.loadBits(0, 1);
        checks.same("one has", x.leastMargin(0), 100);
        checks.same("not of the other pair", x.leastMargin(1), -1);
        x.loadBits(0, 0);
        checks.same("none again", x.leastMargin(0), -1);
    }

    /** Each tone in turn is the weakest: the first and the last one too. */
    private void leastMarginOfOneTone() {
        for (int tone = 0; tone < 16; tone++) {
            ToneLoader x = loaded(16);
            x.setNoise(0, tone, 125);
            checks.same("80", x.leastMargin(0), 80);
            x.setNoise(0, (tone + 1) % 16, 500);
            checks.same("20", x.leastMargin(0), 20);
            x.setNoise(0, (tone + 2) % 16, 10);
            checks.same("a better one is not the least", x.leastMargin(0), 20);
        }
    }

    /** "A tone is bad if its margin is less than 100." */
    private void badBelowAHundred() {
        for (int tone = 0; tone < 16; tone++) {
            ToneLoader x = loaded(16);
            x.setNoise(0, tone, 101);
            checks.same("99", x.margin(0, tone), 99);
            checks.same("bad", x.badTones(0), 1 << tone);
            x.setNoise(0, tone, 100);
            checks.same("100", x.badTones(0), 0);
            x.setNoise(0, tone, 99);
            checks.same("101", x.badTones(0), 0);
        }
    }

    private void badTonesOfNoneAndAll() {
        ToneLoader x = loaded(16);
        for (int tone = 0; tone < 16; tone++) {
            x.setNoise(0, tone, 10000);
        }
        checks.same("all", x.badTones(0), 65535);
        checks.same("none of the other pair", x.badTones(1), 0);
        x.loadBits(0, 0);
        checks.same("tones without bits are not bad", x.badTones(0), 0);
    }

    private void efficientEdges() {
        checks.same("empty", new ToneLoader().isEfficient(1), true);
        ToneLoader full = loaded(192);
        full.setNoise(0, 0, 10000);
        checks.same("full", full.isEfficient(0), true);
        ToneLoader x = loaded(16);
        x.setNoise(0, 0, 200);
        checks.same("200 for 200", x.isEfficient(0), true);
        x.setNoise(0, 0, 201);
        checks.same("201 for 200", x.isEfficient(0), false);
        x.setNoise(0, 0, 100);
        x.setNoise(0, 15, 50);
        checks.same("100 for 100", x.isEfficient(0), true);
        x.setNoise(0, 15, 49);
        checks.same("100 for 98", x.isEfficient(0), false);
        x.setLimit(0, 15, 1);
        checks.same("as many bits as its limit", x.isEfficient(0), true);
        x.setLimit(0, 15, 2);
        checks.same("fewer bits than its limit", x.isEfficient(0), false);
    }

    /** "the rate, converted to double, divided by 16.0" */
    private void meanBitsEdges() {
        checks.same("none", new ToneLoader().meanBits(0), 0.0);
        checks.same("one", loaded(1).meanBits(0), 0.0625);
        checks.same("fifteen", loaded(15).meanBits(0), 0.9375);
        checks.same("sixteen", loaded(16).meanBits(0), 1.0);
        checks.same("one less than all", loaded(191).meanBits(0), 11.9375);
        checks.same("all", loaded(192).meanBits(0), 12.0);
        checks.same("the other pair", loaded(192).meanBits(1), 0.0);
    }

    /** What only asks saves no state and changes nothing, in whatever state it asks. */
    private void valuesLeaveNoTrace() {
        for (Scenes.Scene scene : Scenes.all().values()) {
            ToneLoader asked = scene.make();
            Edges.values(asked);
            checks.same("what follows", Edges.onward(asked), Edges.onward(scene.make()));
            ToneLoader askedBack = scene.make();
            Edges.values(askedBack);
            checks.same("what undo finds", Edges.back(askedBack), Edges.back(scene.make()));
        }
    }
}
