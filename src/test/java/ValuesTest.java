/** Promises 10 to 19: the values of tables, energies and margins. */
public final class ValuesTest {
    private static final Class<?> INDEX = IndexOutOfBoundsException.class;
    private static final Class<?> ARGUMENT = IllegalArgumentException.class;

    private final Checks checks = new Checks("ValuesTest");

    public static void main(String[] args) {
        ValuesTest test = new ValuesTest();
        test.promise10Bits();
        test.promise11Rate();
        test.promise12And13Energy();
        test.promise14DisturbedNoise();
        test.promise15Margin();
        test.promise16LeastMargin();
        test.promise17BadTones();
        test.promise18IsEfficient();
        test.promise18EfficientUnderLimits();
        test.promise19MeanBits();
        test.valuesSaveNothing();
        test.checks.end();
    }

    private static ToneLoader loaded(int pair, int target) {
        ToneLoader x = new ToneLoader();
        x.loadBits(pair, target);
        return x;
    }

    private void promise10Bits() {
        ToneLoader x = loaded(1, 20);
        checks.same("bits", x.bits(1, 0, 0), 2);
        checks.same("bits", x.bits(1, 15, 1), 1);
        checks.same("the other pair", x.bits(0, 0, 0), 0);
        x.request(1, 0, 15);
        x.deliver(1, 0, false);
        x.run(8);
        checks.same("receiver", x.bits(1, 0, 0), 2);
        checks.same("sender", x.bits(1, 0, 1), 1);
        checks.same("receiver", x.bits(1, 15, 0), 1);
        checks.same("sender", x.bits(1, 15, 1), 2);
        checks.refused("pair 2", x, INDEX, () -> x.bits(2, 0, 2));
        checks.refused("pair -1", x, INDEX, () -> x.bits(-1, 0, 0));
        checks.refused("tone 16", x, INDEX, () -> x.bits(0, 16, -1));
        checks.refused("tone -1", x, INDEX, () -> x.bits(0, -1, 0));
        checks.refused("end 2", x, ARGUMENT, () -> x.bits(0, 0, 2));
        checks.refused("end -1", x, ARGUMENT, () -> x.bits(0, 0, -1));
    }

    private void promise11Rate() {
        ToneLoader x = loaded(0, 37);
        checks.same("rate", x.rate(0), 37);
        checks.same("rate", x.rate(1), 0);
        x.loadBits(1, 192);
        checks.same("rate", x.rate(1), 192);
        checks.refused("pair", x, INDEX, () -> x.rate(2));
        checks.refused("pair", x, INDEX, () -> x.rate(-1));
    }

    private void promise12And13Energy() {
        ToneLoader x = loaded(0, 18);
        checks.same("energy", x.energy(0, 0), 300);
        checks.same("energy", x.energy(0, 2), 100);
        checks.same("energy", x.energy(1, 0), 0);
        checks.same("totalEnergy", x.totalEnergy(0), 2000);
        checks.same("totalEnergy", x.totalEnergy(1), 0);
        x.setNoise(0, 0, 5000);
        checks.same("noise does not change it", x.energy(0, 0), 300);
        checks.same("noise does not change it", x.totalEnergy(0), 2000);
        checks.refused("pair", x, INDEX, () -> x.energy(2, 0));
        checks.refused("pair", x, INDEX, () -> x.energy(-1, 0));
        checks.refused("tone", x, INDEX, () -> x.energy(0, 16));
        checks.refused("tone", x, INDEX, () -> x.energy(0, -1));
        checks.refused("pair", x, INDEX, () -> x.totalEnergy(2));
        checks.refused("pair", x, INDEX, () -> x.totalEnergy(-1));
    }

    private void promise14DisturbedNoise() {
        ToneLoader x = loaded(0, 18);
        checks.same("no coupling", x.disturbedNoise(1, 0), 100);
        x.setCoupling(1, 0, 5);
        checks.same("5 * 300 / 1000", x.disturbedNoise(1, 0), 101);
        x.setCoupling(1, 0, 3);
        checks.same("3 * 300 / 1000", x.disturbedNoise(1, 0), 100);
        x.setCoupling(1, 3, 1000);
        checks.same("the energy of the same tone", x.disturbedNoise(1, 3), 200);
        x.loadBits(0, 0);
        checks.same("the present energy", x.disturbedNoise(1, 3), 100);
        checks.refused("pair", x, INDEX, () -> x.disturbedNoise(2, 0));
        checks.refused("pair", x, INDEX, () -> x.disturbedNoise(-1, 0));
        checks.refused("tone", x, INDEX, () -> x.disturbedNoise(0, 16));
        checks.refused("tone", x, INDEX, () -> x.disturbedNoise(0, -1));
    }

    private void promise15Margin() {
        ToneLoader x = loaded(0, 8);
        checks.same("just loaded", x.margin(0, 0), 100);
        checks.same("no bits", x.margin(0, 8), -1);
        x.setNoise(0, 0, 400);
        checks.same("a quarter", x.margin(0, 0), 25);
        x.setNoise(0, 0, 300);
        checks.same("rounded down", x.margin(0, 0), 33);
        x.setNoise(0, 0, 1);
        checks.same("much", x.margin(0, 0), 10000);
        x.setNoise(0, 0, 10000);
        checks.same("little", x.margin(0, 0), 1);
        x.loadBits(1, 16);
        x.setCoupling(0, 1, 500);
        checks.same("disturbed: 100 of 150", x.margin(0, 1), 66);
        checks.refused("pair", x, INDEX, () -> x.margin(2, 0));
        checks.refused("pair", x, INDEX, () -> x.margin(-1, 0));
        checks.refused("tone", x, INDEX, () -> x.margin(0, 16));
        checks.refused("tone", x, INDEX, () -> x.margin(0, -1));
    }

    private void promise16LeastMargin() {
        ToneLoader x = loaded(0, 8);
        checks.same("no bits", x.leastMargin(1), -1);
        checks.same("all alike", x.leastMargin(0), 100);
        x.setNoise(0, 7, 200);
        x.setNoise(0, 3, 125);
        checks.same("the least", x.leastMargin(0), 50);
        x.setNoise(0, 12, 10000);
        checks.same("tones without bits do not count", x.leastMargin(0), 50);
        for (int tone = 0; tone < 8; tone++) {
            x.setNoise(0, tone, 20 + tone);
        }
        checks.same("over 100 too", x.leastMargin(0), 370);
        checks.refused("pair", x, INDEX, () -> x.leastMargin(2));
        checks.refused("pair", x, INDEX, () -> x.leastMargin(-1));
    }

    private void promise17BadTones() {
        ToneLoader x = loaded(0, 15);
        checks.same("none", x.badTones(0), 0);
        checks.same("no bits, no bad tones", x.badTones(1), 0);
        x.setNoise(0, 0, 101);
        x.setNoise(0, 14, 200);
        x.setNoise(0, 15, 200);
        x.setNoise(0, 5, 99);
        checks.same("0 and 14, not 15 that has no bits", x.badTones(0), 1 + (1 << 14));
        ToneLoader y = loaded(0, 16);
        y.setNoise(0, 15, 200);
        checks.same("15", y.badTones(0), 1 << 15);
        checks.refused("pair", x, INDEX, () -> x.badTones(2));
        checks.refused("pair", x, INDEX, () -> x.badTones(-1));
    }

    private void promise18IsEfficient() {
        ToneLoader x = loaded(0, 16);
        checks.same("loaded", x.isEfficient(0), true);
        checks.same("empty", x.isEfficient(1), true);
        x.setNoise(0, 9, 200);
        checks.same("200 for 200 is no gain", x.isEfficient(0), true);
        x.setNoise(0, 9, 201);
        checks.same("201 for 200 is one", x.isEfficient(0), false);
        x.setNoise(0, 9, 100);
        x.loadBits(1, 16);
        x.setCoupling(0, 9, 1000);
        checks.same("disturbed by 100", x.isEfficient(0), true);
        x.setNoise(1, 9, 101);
        x.loadBits(1, 16);
        checks.same("disturbed by 101", x.isEfficient(0), false);
        checks.refused("pair", x, INDEX, () -> x.isEfficient(2));
        checks.refused("pair", x, INDEX, () -> x.isEfficient(-1));
    }

    private void promise18EfficientUnderLimits() {
        ToneLoader x = loaded(0, 16);
        for (int tone = 0; tone < 16; tone++) {
            x.setLimit(0, tone, tone == 4 ? 2 : 1);
        }
        x.setNoise(0, 9, 1000);
        checks.same("to tone 4", x.isEfficient(0), false);
        x.setLimit(0, 4, 1);
        checks.same("no tone can take a bit", x.isEfficient(0), true);
        x.setLimit(0, 9, 2);
        checks.same("not from a tone to itself", x.isEfficient(0), true);
    }

    private void promise19MeanBits() {
        ToneLoader x = loaded(0, 37);
        checks.same("meanBits", x.meanBits(0), 37 / 16.0);
        checks.same("meanBits", x.meanBits(1), 0.0);
        x.loadBits(1, 192);
        checks.same("meanBits", x.meanBits(1), 12.0);
        checks.refused("pair", x, INDEX, () -> x.meanBits(2));
        checks.refused("pair", x, INDEX, () -> x.meanBits(-1));
    }

    private void valuesSaveNothing() {
        ToneLoader x = loaded(0, 20);
        long before = x.digest();
        x.bits(0, 0, 0);
        x.rate(0);
        x.energy(0, 0);
        x.totalEnergy(0);
        x.disturbedNoise(0, 0);
        x.margin(0, 0);
        x.leastMargin(0);
        x.badTones(0);
        x.isEfficient(0);
        x.meanBits(0);
        x.suggest(0);
        x.inStep(0);
        x.brokenFrames(0);
        x.digest();
        checks.same("the digest after all values", x.digest(), before);
        checks.same("one saved state", x.undo(), 0);
    }
}
