/** Promises 1 to 9: a new object, the tones and budgets, loading, repair, balancing. */
public final class LineAndLoadingTest {
    private static final Class<?> INDEX = IndexOutOfBoundsException.class;
    private static final Class<?> ARGUMENT = IllegalArgumentException.class;
    private static final Class<?> STATE = IllegalStateException.class;
    private static final long MOST_ENERGY = 1000000000000L;

    private final Checks checks = new Checks("LineAndLoadingTest");

    public static void main(String[] args) {
        LineAndLoadingTest test = new LineAndLoadingTest();
        test.promise1NewObject();
        test.promise2SetNoise();
        test.promise3SetCoupling();
        test.promise4SetLimit();
        test.promise4SetLimitAtEitherEnd();
        test.promise5SetBudget();
        test.promise6LoadRate();
        test.promise6LoadRateUnderLimits();
        test.promise6LoadRateDropsTheTalk();
        test.promise7LoadBits();
        test.promise7LoadBitsWrong();
        test.promise7EnergiesHaveAMost();
        test.promise8Repair();
        test.promise8RepairTies();
        test.promise8RepairDropsTheTalk();
        test.promise9Balance();
        test.promise9BalanceDropsTheTalk();
        test.checks.end();
    }

    private void promise1NewObject() {
        ToneLoader x = new ToneLoader();
        for (int pair = 0; pair < 2; pair++) {
            for (int tone = 0; tone < 16; tone++) {
                checks.same("bits", x.bits(pair, tone, 0), 0);
                checks.same("bits", x.bits(pair, tone, 1), 0);
                checks.same("energy", x.energy(pair, tone), 0);
                checks.same("margin", x.margin(pair, tone), -1);
                checks.same("noise", x.setNoise(pair, tone, 1), 100);
                checks.same("coupling", x.setCoupling(pair, tone, 1), 0);
                checks.same("limit", x.setLimit(pair, tone, 1), 12);
            }
            checks.same("budget", x.setBudget(pair, 1), 1000000);
            checks.same("brokenFrames", x.brokenFrames(pair), 0);
            checks.same("inStep", x.inStep(pair), true);
        }
        checks.same("frames", x.run(0), 0);
        ToneLoader y = new ToneLoader();
        checks.refused("undo()", y, STATE, () -> y.undo());
    }

    private void promise2SetNoise() {
        ToneLoader x = new ToneLoader();
        x.loadBits(0, 16);
        checks.same("setNoise", x.setNoise(0, 15, 10000), 100);
        checks.same("setNoise", x.setNoise(0, 15, 1), 10000);
        checks.same("setNoise", x.setNoise(0, 15, 2), 1);
        checks.same("disturbedNoise", x.disturbedNoise(0, 15), 2);
        checks.same("disturbedNoise", x.disturbedNoise(1, 15), 100);
        checks.same("disturbedNoise", x.disturbedNoise(0, 14), 100);
        checks.same("the table stays", x.energy(0, 15), 100);
        checks.same("the table stays", x.bits(0, 15, 0), 1);
        checks.same("undo", x.undo(), 3);
        checks.same("setNoise", x.setNoise(0, 15, 2), 1);
        checks.refused("pair -1", x, INDEX, () -> x.setNoise(-1, 0, 1));
        checks.refused("pair 2", x, INDEX, () -> x.setNoise(2, 0, 0));
        checks.refused("tone -1", x, INDEX, () -> x.setNoise(0, -1, 1));
        checks.refused("tone 16", x, INDEX, () -> x.setNoise(0, 16, 10001));
        checks.refused("noise 0", x, ARGUMENT, () -> x.setNoise(0, 0, 0));
        checks.refused("noise 10001", x, ARGUMENT, () -> x.setNoise(0, 0, 10001));
        checks.refused("noise MIN", x, ARGUMENT, () -> x.setNoise(0, 0, Integer.MIN_VALUE));
    }

    private void promise3SetCoupling() {
        ToneLoader x = new ToneLoader();
        x.loadBits(1, 18);
        checks.same("setCoupling", x.setCoupling(0, 0, 1000), 0);
        checks.same("setCoupling", x.setCoupling(0, 1, 7), 0);
        checks.same("setCoupling", x.setCoupling(0, 2, 999), 0);
        checks.same("the whole of 300", x.disturbedNoise(0, 0), 400);
        checks.same("7 * 300 / 1000 rounded down", x.disturbedNoise(0, 1), 102);
        checks.same("999 * 100 / 1000 rounded down", x.disturbedNoise(0, 2), 199);
        checks.same("the disturbed pair alone", x.disturbedNoise(1, 0), 100);
        checks.same("the table stays", x.totalEnergy(1), 2000);
        checks.same("setCoupling", x.setCoupling(0, 0, 0), 1000);
        checks.same("disturbedNoise", x.disturbedNoise(0, 0), 100);
        checks.same("undo", x.undo(), 3);
        checks.same("disturbedNoise", x.disturbedNoise(0, 0), 400);
        checks.refused("pair", x, INDEX, () -> x.setCoupling(2, 0, -1));
        checks.refused("pair", x, INDEX, () -> x.setCoupling(-1, 0, 1));
        checks.refused("tone", x, INDEX, () -> x.setCoupling(1, 16, 1));
        checks.refused("tone", x, INDEX, () -> x.setCoupling(1, -1, 1001));
        checks.refused("coupling -1", x, ARGUMENT, () -> x.setCoupling(1, 0, -1));
        checks.refused("coupling 1001", x, ARGUMENT, () -> x.setCoupling(1, 0, 1001));
    }

    private void promise4SetLimit() {
        ToneLoader x = new ToneLoader();
        checks.same("setLimit", x.setLimit(0, 3, 0), 12);
        checks.same("setLimit", x.setLimit(0, 3, 12), 0);
        checks.same("setLimit", x.setLimit(0, 3, 5), 12);
        x.loadBits(0, 16);
        checks.refused("less than the bits", x, STATE, () -> x.setLimit(0, 3, 0));
        checks.same("as many as the bits", x.setLimit(0, 3, 1), 5);
        checks.same("undo", x.undo(), 3);
        checks.same("undo again", x.setLimit(0, 3, 2), 5);
        checks.refused("pair", x, INDEX, () -> x.setLimit(2, 0, 13));
        checks.refused("pair", x, INDEX, () -> x.setLimit(-1, 0, 1));
        checks.refused("tone", x, INDEX, () -> x.setLimit(0, 16, 1));
        checks.refused("tone", x, INDEX, () -> x.setLimit(0, -1, 0));
        checks.refused("limit 13", x, ARGUMENT, () -> x.setLimit(0, 0, 13));
        checks.refused("limit -1 before the bits", x, ARGUMENT, () -> x.setLimit(0, 3, -1));
    }

    /** After a lost answer the ends differ: tone 0 has 1 bit more here, tone 5 there. */
    private void promise4SetLimitAtEitherEnd() {
        ToneLoader x = new ToneLoader();
        x.loadBits(0, 20);
        x.request(0, 0, 5);
        x.deliver(0, 0, false);
        x.run(8);
        checks.same("receiver", x.bits(0, 0, 0), 2);
        checks.same("sender", x.bits(0, 0, 1), 1);
        checks.refused("the receiver has 2", x, STATE, () -> x.setLimit(0, 0, 1));
        checks.same("the receiver has 2", x.setLimit(0, 0, 2), 12);
        checks.same("receiver", x.bits(0, 5, 0), 1);
        checks.same("sender", x.bits(0, 5, 1), 2);
        checks.refused("the sender has 2", x, STATE, () -> x.setLimit(0, 5, 1));
        checks.same("the sender has 2", x.setLimit(0, 5, 2), 12);
    }

    private void promise5SetBudget() {
        ToneLoader x = new ToneLoader();
        x.loadBits(1, 16);
        checks.same("setBudget", x.setBudget(1, 0), 1000000);
        checks.same("the table stays", x.totalEnergy(1), 1600);
        checks.same("setBudget", x.setBudget(1, 1000000000), 0);
        checks.same("the other pair keeps its own", x.setBudget(0, 5), 1000000);
        checks.same("undo", x.undo(), 3);
        checks.same("undo", x.undo(), 2);
        checks.same("setBudget", x.setBudget(1, 7), 0);
        checks.refused("pair", x, INDEX, () -> x.setBudget(2, -1));
        checks.refused("pair", x, INDEX, () -> x.setBudget(-1, 1));
        checks.refused("budget -1", x, ARGUMENT, () -> x.setBudget(0, -1));
        checks.refused("budget over 10^9", x, ARGUMENT, () -> x.setBudget(0, 1000000001));
    }

    private void promise6LoadRate() {
        ToneLoader x = new ToneLoader();
        x.setBudget(0, 5000);
        checks.same("example 1", x.loadRate(0), 32);
        checks.same("example 1", x.bits(0, 0, 0), 2);
        checks.same("example 1", x.energy(0, 0), 300);
        checks.same("example 1", x.totalEnergy(0), 4800);
        x.setBudget(0, 4799);
        checks.same("one short", x.loadRate(0), 31);
        checks.same("the highest of equal ones goes without", x.bits(0, 15, 0), 1);
        checks.same("sender", x.bits(0, 14, 1), 2);
        checks.same("energies of the bits", x.totalEnergy(0), 4600);
        x.setBudget(0, 4800);
        checks.same("just enough", x.loadRate(0), 32);
        x.setBudget(0, 100);
        checks.same("one bit", x.loadRate(0), 1);
        checks.same("the lowest tone", x.bits(0, 0, 0), 1);
        checks.same("energies go down too", x.energy(0, 1), 0);
        x.setBudget(0, 99);
        checks.same("nothing", x.loadRate(0), 0);
        x.setBudget(0, 0);
        checks.same("no budget", x.loadRate(0), 0);
        x.setBudget(0, 1000000000);
        checks.same("all bits", x.loadRate(0), 192);
        checks.same("the other pair", x.rate(1), 0);
        checks.same("undo", x.undo(), 3);
        checks.same("undo", x.rate(0), 0);
        checks.refused("pair", x, INDEX, () -> x.loadRate(2));
        checks.refused("pair", x, INDEX, () -> x.loadRate(-1));
    }

    private void promise6LoadRateUnderLimits() {
        ToneLoader x = new ToneLoader();
        for (int tone = 2; tone < 16; tone++) {
            x.setLimit(0, tone, 0);
        }
        x.setLimit(0, 0, 2);
        x.setNoise(0, 1, 150);
        x.setBudget(0, 1350);
        checks.same("300 + 1050", x.loadRate(0), 5);
        checks.same("limit", x.bits(0, 0, 0), 2);
        checks.same("the rest", x.bits(0, 1, 0), 3);
        x.setLimit(0, 0, 12);
        checks.same("100 150 200 300 400, then 600 is too much", x.loadRate(0), 5);
        checks.same("cheap first", x.bits(0, 0, 0), 3);
        checks.same("cheap first", x.bits(0, 1, 0), 2);
        x.loadBits(1, 16);
        x.setCoupling(0, 0, 1000);
        x.setBudget(0, 350);
        checks.same("150 + 200 now that tone 0 is disturbed", x.loadRate(0), 2);
        checks.same("disturbed", x.energy(0, 0), 200);
        checks.same("the other pair stays", x.totalEnergy(1), 1600);
    }

    /** Something in all places that a load, a repair or a balancing has to drop. */
    private static ToneLoader amidSwaps() {
        ToneLoader x = new ToneLoader();
        for (int pair = 0; pair < 2; pair++) {
            x.loadBits(pair, 20);
            x.request(pair, 0, 5);
            x.deliver(pair, 0, false);
            x.deliver(pair, 1, false);
            x.resend(pair);
            x.deliver(pair, 0, false);
            x.resend(pair);
        }
        return x;
    }

    private void checkDropped(ToneLoader x, int pair) {
        checks.refused("no request message", x, STATE, () -> x.deliver(pair, 0, false));
        checks.refused("no answer message", x, STATE, () -> x.deliver(pair, 1, false));
        checks.refused("no open request", x, STATE, () -> x.resend(pair));
        int before = x.bits(pair, 5, 0);
        x.run(9);
        checks.same("no agreement", x.bits(pair, 5, 1), before);
        checks.same("no request", x.bits(pair, 5, 0), before);
        checks.same("in step", x.inStep(pair), true);
        checks.same("number", x.request(pair, 1, 5), 0);
        checks.same("a new agreement", x.deliver(pair, 0, false), x.run(0) + 8);
    }

    private void promise6LoadRateDropsTheTalk() {
        ToneLoader x = amidSwaps();
        x.setBudget(0, 2400);
        x.loadRate(0);
        checkDropped(x, 0);
        checks.same("the other pair keeps its message", x.deliver(1, 0, false), 8);
        checks.same("the other pair has swapped", x.bits(1, 5, 0), 2);
        checks.same("the other pair has swapped", x.bits(1, 5, 1), 2);
    }

    private void promise7LoadBits() {
        ToneLoader x = new ToneLoader();
        x.setBudget(0, 0);
        checks.same("example 2, whatever the budget", x.loadBits(0, 18), 2000);
        checks.same("example 2", x.bits(0, 1, 0), 2);
        checks.same("example 2", x.bits(0, 2, 0), 1);
        checks.same("sender", x.bits(0, 1, 1), 2);
        checks.same("sum", x.totalEnergy(0), 2000);
        checks.same("all", x.loadBits(0, 192), 16L * 4095 * 100);
        checks.same("none", x.loadBits(0, 0), 0);
        checks.same("none", x.rate(0), 0);
        checks.same("undo", x.undo(), 3);
        checks.same("undo", x.rate(0), 192);
        ToneLoader y = amidSwaps();
        y.loadBits(0, 20);
        checkDropped(y, 0);
    }

    private void promise7LoadBitsWrong() {
        ToneLoader x = new ToneLoader();
        for (int tone = 1; tone < 16; tone++) {
            x.setLimit(0, tone, 0);
        }
        checks.same("up to the limit", x.loadBits(0, 12), 409500);
        checks.refused("the loading fails", x, STATE, () -> x.loadBits(0, 13));
        checks.refused("the loading fails", x, STATE, () -> x.loadBits(0, 192));
        checks.refused("out of range before that", x, ARGUMENT, () -> x.loadBits(0, 193));
        checks.refused("out of range", x, ARGUMENT, () -> x.loadBits(0, -1));
        checks.refused("pair before that", x, INDEX, () -> x.loadBits(2, 193));
        checks.refused("pair", x, INDEX, () -> x.loadBits(-1, 1));
        checks.same("the table is still there", x.rate(0), 12);
        checks.same("the last undo is the load", x.undo(), 3);
        checks.same("the last undo is the load", x.rate(0), 0);
        for (int tone = 0; tone < 16; tone++) {
            x.setLimit(1, tone, 0);
        }
        checks.refused("no room at all", x, STATE, () -> x.loadBits(1, 1));
        checks.same("no bits need no room", x.loadBits(1, 0), 0);
    }

    private void promise7EnergiesHaveAMost() {
        ToneLoader x = new ToneLoader();
        for (int tone = 0; tone < 16; tone++) {
            x.setNoise(0, tone, 10000);
            x.setCoupling(0, tone, 1000);
            x.setCoupling(1, tone, 1000);
        }
        checks.same("first", x.loadBits(0, 192), 16L * 4095 * 10000);
        long noise = 100 + 4095L * 10000;
        checks.same("second", x.loadBits(1, 192), 16 * 4095 * noise);
        noise = 10000 + 4095 * noise;
        checks.same("disturbedNoise", x.disturbedNoise(0, 0), noise);
        checks.same("each stops at the most", x.loadBits(0, 192), 16 * MOST_ENERGY);
        checks.same("energy", x.energy(0, 7), MOST_ENERGY);
        checks.same("margin", x.margin(0, 7), 100 * MOST_ENERGY / (4095 * noise));
        checks.same("badTones", x.badTones(0), 0xFFFF);
        x.loadBits(1, 192);
        checks.same("the most noise", x.disturbedNoise(0, 0), MOST_ENERGY + 10000);
        checks.same("efficient", x.isEfficient(0), true);
    }

    private void promise8Repair() {
        ToneLoader x = new ToneLoader();
        x.loadBits(0, 18);
        x.setNoise(0, 0, 1000);
        checks.same("example 2", x.isEfficient(0), false);
        checks.same("example 2", x.repair(0), 2);
        checks.same("example 2", x.bits(0, 0, 0), 0);
        checks.same("to the lowest", x.bits(0, 2, 0), 2);
        checks.same("to the next", x.bits(0, 3, 0), 2);
        checks.same("not further", x.bits(0, 4, 0), 1);
        checks.same("sender", x.bits(0, 3, 1), 2);
        checks.same("energies", x.energy(0, 0), 0);
        checks.same("energies", x.energy(0, 3), 300);
        checks.same("rate", x.rate(0), 18);
        checks.same("efficient", x.isEfficient(0), true);
        checks.same("nothing to move", x.repair(0), 0);
        checks.same("undo of nothing", x.undo(), 3);
        checks.same("undo", x.undo(), 2);
        checks.same("undo", x.bits(0, 0, 0), 2);
        x.setNoise(0, 0, 100);
        x.setNoise(0, 2, 101);
        checks.same("nothing to move", x.repair(0), 0);
        checks.same("but the energies become the needs", x.energy(0, 2), 101);
        checks.refused("pair", x, INDEX, () -> x.repair(2));
        checks.refused("pair", x, INDEX, () -> x.repair(-1));
        checks.same("an empty table", x.repair(1), 0);
    }

    /** Of equal last bits the highest tone gives, of equal steps the lowest tone gets. */
    private void promise8RepairTies() {
        ToneLoader x = new ToneLoader();
        x.loadBits(0, 16);
        x.setNoise(0, 3, 500);
        x.setNoise(0, 9, 500);
        x.setNoise(0, 4, 30);
        x.setNoise(0, 11, 30);
        x.setLimit(0, 4, 2);
        x.setLimit(0, 11, 2);
        x.setLimit(0, 0, 1);
        checks.same("9 to 4, 3 to 11, then 200 is not less than 100", x.repair(0), 2);
        checks.same("gave", x.bits(0, 9, 0) + x.bits(0, 3, 0), 0);
        checks.same("got", x.bits(0, 4, 0) + x.bits(0, 11, 0), 4);
        ToneLoader y = new ToneLoader();
        y.loadBits(0, 16);
        y.setNoise(0, 3, 150);
        y.setNoise(0, 9, 150);
        y.setNoise(0, 4, 60);
        y.setNoise(0, 11, 70);
        y.setLimit(0, 11, 1);
        checks.same("only one move pays", y.repair(0), 1);
        checks.same("the highest gives", y.bits(0, 9, 0), 0);
        checks.same("the lowest keeps", y.bits(0, 3, 0), 1);
        ToneLoader z = new ToneLoader();
        z.loadBits(0, 16);
        z.setNoise(0, 8, 150);
        z.setNoise(0, 4, 60);
        z.setNoise(0, 11, 60);
        checks.same("one move", z.repair(0), 1);
        checks.same("the lowest gets", z.bits(0, 4, 0), 2);
        checks.same("the highest does not", z.bits(0, 11, 0), 1);
        z.setNoise(0, 0, 10);
        checks.same("not efficient for tone 0", z.isEfficient(0), false);
        checks.same("120 of 4, 100 of 15, 100 of 14", z.repair(0), 3);
        checks.same("tone 0 gets them: 20, 40, 80", z.bits(0, 0, 0), 4);
    }

    private void promise8RepairDropsTheTalk() {
        ToneLoader x = amidSwaps();
        checks.same("nothing to move", x.repair(1), 0);
        checkDropped(x, 1);
        ToneLoader y = new ToneLoader();
        y.loadBits(0, 20);
        y.request(0, 0, 5);
        y.deliver(0, 0, false);
        y.run(8);
        checks.same("apart", y.inStep(0), false);
        checks.same("nothing to move", y.repair(0), 0);
        checks.same("the sender takes the receiver's copy", y.inStep(0), true);
        checks.same("the sender takes the receiver's copy", y.bits(0, 0, 1), 2);
        y.run(3);
        checks.same("only frame 8 was broken", y.brokenFrames(0), 1);
    }

    private void promise9Balance() {
        ToneLoader x = new ToneLoader();
        x.setBudget(0, 1600);
        x.setBudget(1, 1600);
        checks.same("no coupling: one round and one to see it", x.balance(20), 2);
        checks.same("pair 0", x.rate(0), 16);
        checks.same("pair 1", x.rate(1), 16);
        checks.same("nothing changes", x.balance(20), 1);
        checks.same("undo", x.undo(), 3);
        checks.same("undo", x.undo(), 2);
        checks.same("undo of both rounds at once", x.rate(0), 0);
        checks.same("one round is allowed", x.balance(1), 1);
        x.setNoise(1, 9, 99);
        checks.same("an energy alone changes", x.balance(20), 2);
        checks.same("an energy alone changes", x.totalEnergy(1), 1599);
        x.setNoise(1, 9, 100);
        x.balance(20);
        for (int tone = 0; tone < 16; tone++) {
            x.setCoupling(0, tone, 1000);
        }
        checks.same("a round loads pair 0 first", x.balance(1), 1);
        checks.same("200 a bit", x.rate(0), 8);
        checks.same("pair 1 is not disturbed", x.rate(1), 16);
        x.setBudget(0, 1700);
        x.setNoise(0, 0, 101);
        checks.same("201 for the last", x.balance(5), 2);
        checks.same("201 for the last", x.totalEnergy(0), 1600);
        for (int tone = 0; tone < 16; tone++) {
            x.setCoupling(0, tone, 0);
            x.setCoupling(1, tone, 1000);
        }
        x.setNoise(0, 0, 100);
        checks.same("pair 1 is loaded beside the new pair 0", x.balance(1), 1);
        checks.same("1700 for pair 0", x.rate(0), 16);
        checks.same("200 a bit", x.rate(1), 8);
        checks.refused("rounds 0", x, ARGUMENT, () -> x.balance(0));
        checks.refused("rounds 21", x, ARGUMENT, () -> x.balance(21));
        checks.refused("rounds -1", x, ARGUMENT, () -> x.balance(-1));
    }

    private void promise9BalanceDropsTheTalk() {
        ToneLoader x = amidSwaps();
        x.setBudget(0, 2400);
        x.setBudget(1, 2400);
        checks.same("the tables are what they become", x.balance(3), 1);
        ToneLoader y = amidSwaps();
        y.setBudget(0, 2400);
        y.setBudget(1, 2400);
        y.balance(3);
        checkDropped(x, 0);
        checkDropped(y, 1);
    }
}
