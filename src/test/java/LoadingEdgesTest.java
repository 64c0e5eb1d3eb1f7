import java.util.List;

/**
 * The edges of promises 1 to 9 and of what the document's description says on tables, loading,
 * repair and balancing, a test for each sentence that names one.
 */
public final class LoadingEdgesTest {
    private static final long MOST_ENERGY = 1000000000000L;

    private final Checks checks = new Checks("LoadingEdgesTest");
    private final Edges edges = new Edges(checks);

    public static void main(String[] args) {
        LoadingEdgesTest test = new LoadingEdgesTest();
        test.newObject();
        test.settingsLeaveTheTable();
        test.limitAsManyAsBits();
        test.limitRefusedBelowEitherEnd();
        test.limitRefusedAtTwelveBits();
        test.greatestEnergyOfALoad();
        test.greatestEnergyOfARepair();
        test.greatestEnergyOfASwap();
        test.greatestSumOfEnergies();
        test.needsHaveNoGreatest();
        test.budgetJustReached();
        test.budgetOfEveryBit();
        test.budgetZero();
        test.greatestBudget();
        test.lowestOfEqualSteps();
        test.limitsEndALoad();
        test.loadForgetsTheTableBefore();
        test.loadLeavesTheOtherPair();
        test.targetZero();
        test.targetAll();
        test.targetJustRoom();
        test.failedLoadChangesNothing();
        test.loadOfOnePairKeepsTheOtherTalk();
        test.checks.end();
    }

    /** Promise 1: "Creates two pairs as described, at frame 0." */
    private void newObject() {
        for (int pair = 0; pair < 2; pair++) {
            ToneLoader x = new ToneLoader();
            int other = 1 - pair;
            checks.same("frame 0", x.run(0), 0);
            x.loadBits(pair, 192);
            for (int tone = 0; tone < 16; tone++) {
                checks.same("12 bits of noise 100", x.energy(pair, tone), 409500);
                checks.same("no coupling", x.disturbedNoise(other, tone), 100);
                checks.same("the other pair is empty", x.bits(other, tone, 0), 0);
                checks.same("the other sender is empty", x.bits(other, tone, 1), 0);
                checks.same("the other pair has no energy", x.energy(other, tone), 0);
            }
            checks.same("a budget of 1000000", x.loadRate(other), 147);
            checks.same("a budget of 1000000", x.totalEnergy(other), 971200);
            x.loadBits(other, 1);
            checks.same("the first request", x.request(other, 0, 1), 0);
            checks.same("at frame 0", x.deliver(other, 0, false), 8);
        }
        edges.refused("a new object has no saved state", ToneLoader::new, Edges.STATE,
                x -> x.undo());
    }

    /** "The table stays.", whatever is set; and so do the messages and the open request. */
    private void settingsLeaveTheTable() {
        Edges.Call[] settings = {x -> x.setNoise(0, 5, 1), x -> x.setNoise(0, 5, 10000),
            x -> x.setCoupling(0, 5, 1000), x -> x.setLimit(0, 5, 2), x -> x.setLimit(0, 15, 12),
            x -> x.setBudget(0, 0), x -> x.setBudget(0, 1000000000)};
        for (Edges.Call setting : settings) {
            ToneLoader x = Scenes.bothOnWay();
            List<Object> other = Edges.pairValues(x, 1);
            setting.on(x);
            for (int tone = 0; tone < 16; tone++) {
                checks.same("the receiver", x.bits(0, tone, 0), tone < 4 ? 2 : 1);
                checks.same("the sender", x.bits(0, tone, 1), tone < 4 ? 2 : 1);
                checks.same("the energy", x.energy(0, tone), tone < 4 ? 300 : 100);
            }
            checks.same("the other pair", Edges.pairValues(x, 1), other);
            edges.answers("the answer", x, y -> y.deliver(0, 1, false), 8);
            edges.answers("the message and the agreement", x, y -> y.deliver(0, 0, false), 8);
            edges.answers("the request", x, y -> y.resend(0), 0);
        }
    }

    /** Promise 4: "if limit is less than the number of bits of the tone"; as many are taken. */
    private void limitAsManyAsBits() {
        ToneLoader x = Scenes.loaded();
        checks.same("2 bits, limit 2", x.setLimit(0, 3, 2), 12);
        checks.same("1 bit, limit 1", x.setLimit(0, 4, 1), 12);
        checks.same("2 bits, limit 2 again", x.setLimit(0, 3, 2), 2);
        edges.refused("2 bits, limit 1", Scenes::loaded, Edges.STATE, y -> y.setLimit(0, 3, 1));
        edges.refused("2 bits, limit 0", Scenes::loaded, Edges.STATE, y -> y.setLimit(1, 3, 0));
        edges.refused("1 bit, limit 0", Scenes::loaded, Edges.STATE, y -> y.setLimit(0, 4, 0));
        ToneLoader empty = new ToneLoader();
        checks.same("no bits, limit 0", empty.setLimit(0, 3, 0), 12);
        checks.same("limit 0 again", empty.setLimit(0, 3, 0), 0);
    }

    /** Promise 4: "at either end". Tone 0 has 2 bits here and 1 there, tone 5 the other way. */
    private void limitRefusedBelowEitherEnd() {
        ToneLoader x = Scenes.apart();
        checks.same("the receiver's 2", x.bits(0, 0, 0), 2);
        checks.same("the sender's 1", x.bits(0, 0, 1), 1);
        checks.same("the receiver's 1", x.bits(0, 5, 0), 1);
        checks.same("the sender's 2", x.bits(0, 5, 1), 2);
        edges.refused("the receiver has more", Scenes::apart, Edges.STATE,
                y -> y.setLimit(0, 0, 1));
        edges.refused("the sender has more", Scenes::apart, Edges.STATE,
                y -> y.setLimit(0, 5, 1));
        checks.same("the greater end", x.setLimit(0, 0, 2), 12);
        checks.same("the greater end", x.setLimit(0, 5, 2), 12);
    }

    private void limitRefusedAtTwelveBits() {
        Scenes.Scene full = () -> {
            ToneLoader x = new ToneLoader();
            x.loadBits(1, 192);
            return x;
        };
        edges.refused("12 bits, limit 11", full, Edges.STATE, x -> x.setLimit(1, 15, 11));
        edges.answers("12 bits, limit 12", full.make(), x -> x.setLimit(1, 15, 12), 12);
    }

    /**
     * Tone 0 of pair 1 gets an energy of 999999999180, which with a coupling of 1000 disturbs
     * tone 0 of pair 0; so a noise of 820 makes the need of one bit there 1000000000000.
     */
    private static ToneLoader nearTheGreatestEnergy(int firstNoise) {
        ToneLoader x = Scenes.toneZeroAlone();
        x.setNoise(1, 0, 3500);
        x.loadBits(1, 4);
        x.setCoupling(0, 0, 1000);
        x.setNoise(0, 0, 7133);
        x.loadBits(0, 12);
        x.setCoupling(1, 0, 1000);
        x.setNoise(1, 0, 3109);
        x.loadBits(1, 12);
        x.setNoise(0, 0, firstNoise);
        return x;
    }

    /** "Whenever an energy is set to a need that is greater than 1000000000000, ..." */
    private void greatestEnergyOfALoad() {
        ToneLoader x = nearTheGreatestEnergy(819);
        checks.same("the disturbing energy", x.energy(1, 0), 999999999180L);
        checks.same("one less", x.loadBits(0, 1), MOST_ENERGY - 1);
        x.setNoise(0, 0, 820);
        checks.same("just the greatest", x.loadBits(0, 1), MOST_ENERGY);
        checks.same("just the greatest", x.energy(0, 0), MOST_ENERGY);
        checks.same("and no less than the need", x.margin(0, 0), 100);
        checks.same("and not bad", x.badTones(0), 0);
        x.setNoise(0, 0, 821);
        checks.same("one more", x.disturbedNoise(0, 0), MOST_ENERGY + 1);
        checks.same("becomes the greatest instead", x.loadBits(0, 1), MOST_ENERGY);
        checks.same("which is less than the need", x.margin(0, 0), 99);
        checks.same("and bad", x.badTones(0), 1);
        checks.same("12 bits", x.loadBits(0, 12), MOST_ENERGY);
        checks.same("hundredths of 4095 times as much", x.margin(0, 0), 0);
    }

    private void greatestEnergyOfARepair() {
        ToneLoader x = nearTheGreatestEnergy(1);
        checks.same("less", x.loadBits(0, 1), MOST_ENERGY - 819);
        long[] energies = {MOST_ENERGY - 1, MOST_ENERGY, MOST_ENERGY};
        for (int i = 0; i < 3; i++) {
            x.setNoise(0, 0, 819 + i);
            checks.same("nothing to move", x.repair(0), 0);
            checks.same("the energy at noise " + (819 + i), x.energy(0, 0), energies[i]);
        }
    }

    private void greatestEnergyOfASwap() {
        long[] energies = {MOST_ENERGY - 1, MOST_ENERGY, MOST_ENERGY};
        for (int i = 0; i < 3; i++) {
            ToneLoader x = nearTheGreatestEnergy(819 + i);
            x.setLimit(0, 1, 1);
            checks.same("tone 1 is cheaper", x.loadBits(0, 1), 100);
            x.request(0, 1, 0);
            x.deliver(0, 0, false);
            x.deliver(0, 1, false);
            x.run(8);
            checks.same("the energy at noise " + (819 + i), x.energy(0, 0), energies[i]);
            checks.same("the tone without its bit", x.energy(0, 1), 0);
        }
    }

    /** All tones of a pair at the greatest energy, and the greatest noise that makes. */
    private void greatestSumOfEnergies() {
        ToneLoader x = new ToneLoader();
        for (int tone = 0; tone < 16; tone++) {
            x.setNoise(0, tone, 10000);
            x.setNoise(1, tone, 10000);
            x.setCoupling(0, tone, 1000);
            x.setCoupling(1, tone, 1000);
        }
        for (int i = 0; i < 4; i++) {
            x.loadBits(i % 2, 192);
        }
        checks.same("16 times the greatest", x.loadBits(0, 192), 16 * MOST_ENERGY);
        checks.same("16 times the greatest", x.totalEnergy(0), 16 * MOST_ENERGY);
        checks.same("16 times the greatest", x.totalEnergy(1), 16 * MOST_ENERGY);
        for (int tone = 0; tone < 16; tone++) {
            checks.same("noise", x.disturbedNoise(1, tone), MOST_ENERGY + 10000);
            checks.same("margin", x.margin(1, tone), 0);
        }
        checks.same("a margin of 0 is bad", x.badTones(1), 65535);
        checks.same("a margin of 0 is a margin", x.leastMargin(1), 0);
        checks.same("full tones leave nothing to move", x.repair(1), 0);
        checks.same("no budget is enough", x.loadRate(1), 0);
    }

    /** Only energies have a greatest value: loading and repair weigh the needs as they are. */
    private void needsHaveNoGreatest() {
        ToneLoader x = Scenes.toneZeroAlone();
        for (int tone = 0; tone < 2; tone++) {
            for (int pair = 0; pair < 2; pair++) {
                x.setLimit(pair, tone, 12);
                x.setNoise(pair, tone, 10000);
                x.setCoupling(pair, tone, 1000);
            }
        }
        for (int i = 0; i < 4; i++) {
            x.loadBits(i % 2, 24);
        }
        checks.same("both at the greatest energy", x.totalEnergy(1), 2 * MOST_ENERGY);
        x.loadBits(0, 5);
        checks.same("in turn", x.bits(0, 0, 0), 3);
        checks.same("in turn", x.bits(0, 1, 0), 2);
        checks.same("all of them are too dear", x.totalEnergy(0), 2 * MOST_ENERGY);
        x.setLimit(0, 1, 2);
        x.loadBits(0, 14);
        x.setLimit(0, 1, 12);
        checks.same("12 bits and 2", x.isEfficient(0), false);
        checks.same("to 7 and 7", x.repair(0), 5);
        checks.same("to 7 and 7", x.bits(0, 0, 0), 7);
        checks.same("at the greatest energy all the time", x.totalEnergy(0), 2 * MOST_ENERGY);
    }

    /** "as long as the sum of the needs of all tones of the pair is at most the budget then" */
    private void budgetJustReached() {
        for (int bits = 1; bits <= 192; bits++) {
            ToneLoader x = new ToneLoader();
            x.setNoise(0, 3, 37);
            x.setNoise(0, 12, 251);
            int needs = (int) x.loadBits(0, bits);
            List<Object> table = Edges.pairValues(x, 0);
            x.setBudget(0, needs);
            checks.same("a budget of just the needs", x.loadRate(0), bits);
            checks.same("the same table", Edges.pairValues(x, 0), table);
            x.setBudget(0, needs - 1);
            checks.same("one less", x.loadRate(0), bits - 1);
        }
    }

    private void budgetOfEveryBit() {
        ToneLoader x = new ToneLoader();
        for (int tone = 0; tone < 16; tone++) {
            x.setNoise(1, tone, 10000);
        }
        x.setBudget(1, 16 * 4095 * 10000);
        checks.same("no tone is left", x.loadRate(1), 192);
        x.setBudget(1, 16 * 4095 * 10000 - 1);
        checks.same("one less", x.loadRate(1), 191);
        checks.same("the highest number goes without", x.bits(1, 15, 0), 11);
        x.setBudget(1, 1000000000);
        checks.same("more is no use", x.loadRate(1), 192);
        checks.same("more is no use", x.totalEnergy(1), 16 * 4095 * 10000);
    }

    private void budgetZero() {
        ToneLoader x = new ToneLoader();
        x.setNoise(0, 9, 1);
        x.loadBits(0, 40);
        x.setBudget(0, 0);
        checks.same("nothing", x.loadRate(0), 0);
        checks.same("no energy", x.totalEnergy(0), 0);
        checks.same("no bits at the sender", x.bits(0, 9, 1), 0);
        x.setBudget(0, 1);
        checks.same("one bit of noise 1", x.loadRate(0), 1);
        checks.same("one bit of noise 1", x.bits(0, 9, 0), 1);
    }

    /** One bit that needs 1000000000, made by an energy of 999999000 on the other pair. */
    private void greatestBudget() {
        ToneLoader x = Scenes.toneZeroAlone();
        x.setNoise(0, 0, 59);
        x.loadBits(0, 12);
        x.setCoupling(1, 0, 1000);
        x.setNoise(1, 0, 2595);
        checks.same("the disturbing energy", x.loadBits(1, 12), 999999000);
        x.setCoupling(0, 0, 1000);
        x.setNoise(0, 0, 1000);
        x.setBudget(0, 1000000000);
        checks.same("just enough", x.loadRate(0), 1);
        checks.same("just enough", x.energy(0, 0), 1000000000);
        x.setNoise(0, 0, 1001);
        checks.same("one too much", x.loadRate(0), 0);
        x.setNoise(0, 0, 1000);
        x.setBudget(0, 999999999);
        checks.same("one too little", x.loadRate(0), 0);
    }

    /** "(the lowest number of equal ones)" */
    private void lowestOfEqualSteps() {
        ToneLoader x = new ToneLoader();
        x.loadBits(0, 1);
        checks.same("tone 0 of all", x.bits(0, 0, 0), 1);
        x.loadBits(0, 15);
        checks.same("tone 15 last", x.bits(0, 15, 0), 0);
        x.loadBits(0, 17);
        checks.same("tone 0 again", x.bits(0, 0, 0), 2);
        x.setNoise(0, 0, 200);
        x.loadBits(0, 16);
        checks.same("a first bit for 200 before second ones", x.bits(0, 0, 0), 1);
        x.setNoise(0, 0, 100);
        x.setNoise(0, 15, 200);
        x.loadBits(0, 16);
        checks.same("a second bit for 200 before a first one", x.bits(0, 0, 0), 2);
        checks.same("a second bit for 200 before a first one", x.bits(0, 15, 0), 0);
    }

    /** "of those with fewer bits than their limit"; "or no tone is left" */
    private void limitsEndALoad() {
        ToneLoader x = new ToneLoader();
        for (int tone = 0; tone < 16; tone++) {
            x.setLimit(0, tone, 0);
        }
        checks.same("no tone at all", x.loadRate(0), 0);
        x.setLimit(0, 7, 1);
        checks.same("one bit", x.loadRate(0), 1);
        x.setLimit(0, 7, 11);
        x.setLimit(0, 8, 12);
        x.setBudget(0, 1000000000);
        checks.same("11 and 12", x.loadRate(0), 23);
        checks.same("11", x.bits(0, 7, 0), 11);
        checks.same("12", x.bits(0, 8, 0), 12);
    }

    /** "All bits of the pair become 0"; "the energy of each tone of the pair becomes its need" */
    private void loadForgetsTheTableBefore() {
        ToneLoader x = new ToneLoader();
        x.loadBits(0, 192);
        x.setNoise(0, 4, 99);
        x.setBudget(0, 99);
        checks.same("one bit", x.loadRate(0), 1);
        for (int tone = 0; tone < 16; tone++) {
            int bits = tone == 4 ? 1 : 0;
            checks.same("bits", x.bits(0, tone, 0), bits);
            checks.same("bits of the sender", x.bits(0, tone, 1), bits);
            checks.same("energy", x.energy(0, tone), 99 * bits);
        }
        x.loadBits(0, 192);
        checks.same("a target too", x.loadBits(0, 1), 99);
    }

    /** "During loading the energies of the other pair do not change." */
    private void loadLeavesTheOtherPair() {
        ToneLoader x = Scenes.loaded();
        for (int tone = 0; tone < 16; tone++) {
            x.setCoupling(0, tone, 1000);
            x.setCoupling(1, tone, 1000);
        }
        x.loadBits(0, 100);
        checks.same("loadBits", x.totalEnergy(1), 2400);
        x.loadRate(0);
        checks.same("loadRate", x.totalEnergy(1), 2400);
        x.repair(0);
        checks.same("repair", x.totalEnergy(1), 2400);
        checks.same("the bits stay", x.rate(1), 20);
    }

    private void targetZero() {
        ToneLoader x = Scenes.loaded();
        checks.same("target 0", x.loadBits(0, 0), 0);
        checks.same("no bits", x.rate(0), 0);
        checks.same("no margin", x.leastMargin(0), -1);
        ToneLoader y = new ToneLoader();
        for (int tone = 0; tone < 16; tone++) {
            y.setLimit(1, tone, 0);
        }
        checks.same("target 0 needs no tone", y.loadBits(1, 0), 0);
    }

    private void targetAll() {
        ToneLoader x = new ToneLoader();
        x.setBudget(1, 0);
        checks.same("the budget is not looked at", x.loadBits(1, 192), 16 * 4095 * 100);
        for (int tone = 0; tone < 16; tone++) {
            checks.same("12 bits", x.bits(1, tone, 0), 12);
            checks.same("12 bits at the sender", x.bits(1, tone, 1), 12);
        }
        x.loadBits(1, 191);
        checks.same("one less", x.bits(1, 15, 0), 11);
    }

    /** "if no tone is left before, the loading fails" */
    private void targetJustRoom() {
        for (int room : new int[] {0, 1, 11, 12}) {
            Scenes.Scene scene = () -> {
                ToneLoader x = Scenes.toneZeroAlone();
                x.setLimit(0, 0, room);
                return x;
            };
            edges.answers("just the room", scene.make(), x -> x.loadBits(0, room),
                    ((1L << room) - 1) * 100);
            edges.refused("one more", scene, Edges.STATE, x -> x.loadBits(0, room + 1));
            edges.refused("the most", scene, Edges.STATE, x -> x.loadBits(0, 192));
        }
        Scenes.Scene oneShort = () -> {
            ToneLoader x = new ToneLoader();
            x.setLimit(0, 15, 11);
            return x;
        };
        edges.answers("191 bits", oneShort.make(), x -> x.loadBits(0, 191),
                (15 * 4095 + 2047) * 100L);
        edges.refused("192 bits", oneShort, Edges.STATE, x -> x.loadBits(0, 192));
    }

    /** A loading that fails keeps the table, the messages, the agreement and the open request. */
    private void failedLoadChangesNothing() {
        Scenes.Scene[] scenes = {Scenes::requested, Scenes::bothOnWay, Scenes::noted,
            Scenes::apart};
        for (Scenes.Scene scene : scenes) {
            Scenes.Scene narrow = () -> {
                ToneLoader x = scene.make();
                x.setLimit(0, 15, 11);
                return x;
            };
            edges.refused("the loading fails", narrow, Edges.STATE, x -> x.loadBits(0, 192));
        }
    }

    /** A call for one pair drops that pair's talk alone, and balancing drops that of both. */
    private void loadOfOnePairKeepsTheOtherTalk() {
        Edges.Call[] calls = {x -> x.loadRate(0), x -> x.loadBits(0, 20), x -> x.repair(0)};
        for (Edges.Call call : calls) {
            ToneLoader x = Scenes.bothOnWay();
            call.on(x);
            edges.answers("no request message", x, y -> y.deliver(0, 0, false), Edges.STATE);
            edges.answers("no answer message", x, y -> y.deliver(0, 1, false), Edges.STATE);
            edges.answers("no open request", x, y -> y.resend(0), Edges.STATE);
            edges.answers("an answer of the other", x, y -> y.deliver(1, 1, false), 8);
            edges.answers("a message of the other", x, y -> y.deliver(1, 0, false), 8);
            edges.answers("a request of the other", x, y -> y.resend(1), 0);
            x.run(5);
            checks.same("the other receiver swaps", x.bits(1, 6, 0), 2);
            checks.same("the other sender swaps", x.bits(1, 6, 1), 2);
            checks.same("the dropped agreement is not carried out", x.inStep(0), true);
        }
        ToneLoader x = Scenes.bothOnWay();
        x.balance(1);
        for (int pair = 0; pair < 2; pair++) {
            int p = pair;
            edges.answers("no request message", x, y -> y.deliver(p, 0, false), Edges.STATE);
            edges.answers("no answer message", x, y -> y.deliver(p, 1, false), Edges.STATE);
            edges.answers("no open request", x, y -> y.resend(p), Edges.STATE);
        }
        x.run(9);
        checks.same("no swap of pair 0", x.inStep(0), true);
        checks.same("no swap of pair 1", x.inStep(1), true);
    }
}
