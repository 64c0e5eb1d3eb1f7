/** The edges of promises 8 and 9: what repair and balancing take, move and count. */
public final class BalanceEdgesTest {
    private final Checks checks = new Checks("BalanceEdgesTest");
    private final Edges edges = new Edges(checks);

    public static void main(String[] args) {
        BalanceEdgesTest test = new BalanceEdgesTest();
        test.repairOfAnEmptyTable();
        test.repairOfAFullTable();
        test.repairWithOneToneOnly();
        test.noMoveForEqualNeeds();
        test.aMoveForOneLess();
        test.highestOfEqualLastBits();
        test.lowestOfEqualSteps();
        test.noMoveToAFullTone();
        test.overItsLimitAToneOnlyGives();
        test.theMostMoves();
        test.repairRenewsEnergiesWithoutMoves();
        test.repairBringsTheSenderIntoStep();
        test.oneRound();
        test.roundThatChangesNothingIsCounted();
        test.roundsRunOut();
        test.settlesInTheTwentiethRound();
        test.oneRoundTooFew();
        test.bitsAloneAreAChange();
        test.anEnergyAloneIsAChange();
        test.eitherPairIsLookedAt();
        test.theSenderIsNotLookedAt();
        test.balanceIsOneSavedState();
        test.checks.end();
    }

    private void repairOfAnEmptyTable() {
        ToneLoader x = new ToneLoader();
        x.setNoise(0, 0, 10000);
        checks.same("an empty table is efficient", x.isEfficient(0), true);
        checks.same("nothing to move", x.repair(0), 0);
        checks.same("still empty", x.rate(0), 0);
    }

    /** No tone has fewer bits than its limit, so nothing can be moved, whatever it costs. */
    private void repairOfAFullTable() {
        ToneLoader x = new ToneLoader();
        x.loadBits(0, 192);
        x.setNoise(0, 0, 10000);
        x.setNoise(0, 15, 1);
        checks.same("efficient", x.isEfficient(0), true);
        checks.same("nothing to move", x.repair(0), 0);
        checks.same("but the energy is renewed", x.energy(0, 0), 40950000);
        checks.same("but the energy is renewed", x.energy(0, 15), 4095);
        x.loadBits(0, 191);
        checks.same("one less: the dear tone lacks it", x.bits(0, 0, 0), 11);
        checks.same("efficient", x.isEfficient(0), true);
    }

    /** The only tone with bits is the only one with room: "from one tone to another one". */
    private void repairWithOneToneOnly() {
        ToneLoader x = Scenes.toneZeroAlone();
        x.loadBits(0, 5);
        x.setNoise(0, 0, 10000);
        checks.same("efficient", x.isEfficient(0), true);
        checks.same("nothing to move", x.repair(0), 0);
        x.setLimit(0, 9, 1);
        checks.same("not any more", x.isEfficient(0), false);
        checks.same("one bit", x.repair(0), 1);
        checks.same("the other tone", x.bits(0, 9, 0), 1);
    }

    /** "such that the sum of the needs of the pair becomes smaller" */
    private void noMoveForEqualNeeds() {
        ToneLoader x = new ToneLoader();
        x.loadBits(0, 16);
        x.setNoise(0, 9, 200);
        checks.same("200 here, 200 there", x.isEfficient(0), true);
        checks.same("nothing to move", x.repair(0), 0);
        checks.same("the bit stays", x.bits(0, 9, 0), 1);
    }

    private void aMoveForOneLess() {
        ToneLoader x = new ToneLoader();
        x.loadBits(0, 16);
        x.setNoise(0, 9, 201);
        checks.same("201 here, 200 there", x.isEfficient(0), false);
        checks.same("one bit", x.repair(0), 1);
        checks.same("the bit is gone", x.bits(0, 9, 0), 0);
        checks.same("to the lowest number", x.bits(0, 0, 0), 2);
        checks.same("efficient now", x.isEfficient(0), true);
    }

    /** "(... of equal ones the highest number)": tones 0, 7 and 15, and room for one bit. */
    private void highestOfEqualLastBits() {
        for (int highest : new int[] {0, 7, 15}) {
            ToneLoader x = new ToneLoader();
            x.loadBits(0, 16);
            for (int tone = 0; tone < 16; tone++) {
                x.setLimit(0, tone, tone == 4 ? 2 : 1);
            }
            for (int tone : new int[] {0, 7, 15}) {
                x.setNoise(0, tone, tone <= highest ? 1000 : 999);
            }
            checks.same("room for one", x.repair(0), 1);
            checks.same("the highest gives", x.bits(0, highest, 0), 0);
            checks.same("tone 4 gets", x.bits(0, 4, 0), 2);
        }
    }

    /** "(the lowest number of equal ones)": tones 0, 7 and 15, and one bit to give. */
    private void lowestOfEqualSteps() {
        for (int lowest : new int[] {0, 7, 15}) {
            ToneLoader x = new ToneLoader();
            x.loadBits(0, 16);
            x.setNoise(0, 3, 150);
            for (int tone : new int[] {0, 7, 15}) {
                x.setNoise(0, tone, tone < lowest ? 73 : 72);
            }
            checks.same("144 is less than 150", x.repair(0), 1);
            checks.same("the lowest gets", x.bits(0, lowest, 0), 2);
            checks.same("tone 3 gives", x.bits(0, 3, 0), 0);
        }
    }

    private void noMoveToAFullTone() {
        ToneLoader x = new ToneLoader();
        x.loadBits(0, 16);
        x.setNoise(0, 2, 1);
        x.setLimit(0, 2, 1);
        checks.same("tone 2 is full", x.isEfficient(0), true);
        checks.same("nothing to move", x.repair(0), 0);
        x.setLimit(0, 2, 2);
        checks.same("room for one", x.isEfficient(0), false);
        checks.same("room for one", x.repair(0), 1);
        checks.same("not beyond its limit", x.bits(0, 2, 0), 2);
        x.setLimit(0, 2, 12);
        checks.same("2, 4, 8, 16, 32, 64 are less than 100, 128 is not", x.repair(0), 5);
        checks.same("2, 4, 8, 16, 32, 64 are less than 100, 128 is not", x.bits(0, 2, 0), 7);
    }

    /** A limit lowered after a request leaves tone 5 with 2 bits and a limit of 1. */
    private static ToneLoader overItsLimit() {
        ToneLoader x = Scenes.loaded();
        x.request(0, 0, 5);
        x.setLimit(0, 5, 1);
        x.deliver(0, 0, false);
        x.deliver(0, 1, false);
        x.run(8);
        return x;
    }

    private void overItsLimitAToneOnlyGives() {
        ToneLoader x = overItsLimit();
        checks.same("2 bits", x.bits(0, 5, 0), 2);
        x.setNoise(0, 5, 1);
        checks.same("it gets none", x.isEfficient(0), true);
        checks.same("it gets none", x.repair(0), 0);
        x.setNoise(0, 5, 101);
        checks.same("202 for 200", x.isEfficient(0), false);
        checks.same("it gives one", x.repair(0), 1);
        checks.same("it gives one", x.bits(0, 5, 0), 1);
        checks.same("to tone 0", x.bits(0, 0, 0), 2);
    }

    /** 96 bits on eight dear tones, and just as much room on eight cheap ones. */
    private void theMostMoves() {
        ToneLoader x = new ToneLoader();
        for (int tone = 8; tone < 16; tone++) {
            x.setLimit(1, tone, 0);
        }
        x.loadBits(1, 96);
        for (int tone = 0; tone < 16; tone++) {
            x.setNoise(1, tone, tone < 8 ? 10000 : 1);
            x.setLimit(1, tone, 12);
        }
        checks.same("all of them", x.repair(1), 96);
        checks.same("none is left", x.bits(1, 7, 0), 0);
        checks.same("12 of them", x.bits(1, 8, 1), 12);
        checks.same("the energies of noise 1", x.totalEnergy(1), 8 * 4095);
    }

    /** "Afterwards the energy of each tone becomes its need." */
    private void repairRenewsEnergiesWithoutMoves() {
        ToneLoader x = Scenes.loaded();
        x.setCoupling(0, 5, 1000);
        x.setNoise(0, 6, 102);
        checks.same("no move", x.repair(0), 0);
        checks.same("disturbed by 100", x.energy(0, 5), 200);
        checks.same("the noise of now", x.energy(0, 6), 102);
        checks.same("the others stay", x.totalEnergy(0), 2400 + 100 + 2);
    }

    private void repairBringsTheSenderIntoStep() {
        ToneLoader x = Scenes.apart();
        checks.same("apart", x.inStep(0), false);
        checks.same("no move", x.repair(0), 0);
        checks.same("the sender takes the copy of the receiver", x.inStep(0), true);
        checks.same("the sender takes the copy of the receiver", x.bits(0, 0, 1), 2);
        checks.same("the next request has the number 0", x.request(0, 0, 5), 0);
    }

    /** Tone 0 alone, pairs that disturb each other fully, with these noises and budgets. */
    private static ToneLoader duel(int noise0, int noise1, int budget0, int budget1) {
        ToneLoader x = Scenes.toneZeroAlone();
        x.setCoupling(0, 0, 1000);
        x.setCoupling(1, 0, 1000);
        x.setNoise(0, 0, noise0);
        x.setNoise(1, 0, noise1);
        x.setBudget(0, budget0);
        x.setBudget(1, budget1);
        return x;
    }

    private void checkTone(String what, ToneLoader x, int pair, int bits, long energy) {
        checks.same(what + ", bits", x.bits(pair, 0, 0), bits);
        checks.same(what + ", bits of the sender", x.bits(pair, 0, 1), bits);
        checks.same(what + ", energy", x.energy(pair, 0), energy);
    }

    /** Pair 0 is loaded beside the old pair 1, pair 1 beside the new pair 0. */
    private void oneRound() {
        ToneLoader x = duel(1, 1, 10, 10);
        checks.same("one round", x.balance(1), 1);
        checkTone("3 bits at 1", x, 0, 3, 7);
        checkTone("1 bit at 1 + 7", x, 1, 1, 8);
        checks.same("one more", x.balance(1), 1);
        checkTone("1 bit at 1 + 8", x, 0, 1, 9);
        checkTone("1 bit at 1 + 9", x, 1, 1, 10);
        checks.same("one more", x.balance(1), 1);
        checkTone("no bit at 1 + 10", x, 0, 0, 0);
        checkTone("3 bits at 1", x, 1, 3, 7);
    }

    /** "the number of rounds that were made, the last one that changed nothing included" */
    private void roundThatChangesNothingIsCounted() {
        checks.same("a fourth round changes nothing", duel(1, 1, 10, 20).balance(20), 4);
        checks.same("four are enough", duel(1, 1, 10, 20).balance(4), 4);
        checks.same("three are allowed", duel(1, 1, 10, 20).balance(3), 3);
        ToneLoader x = duel(1, 1, 10, 20);
        x.balance(3);
        checkTone("no bit at 1 + 10", x, 0, 0, 0);
        checkTone("4 bits at 1", x, 1, 4, 15);
        checks.same("nothing changes", x.balance(20), 1);
        checks.same("nothing changes", x.balance(1), 1);
        ToneLoader empty = duel(1, 1, 0, 0);
        checks.same("empty tables stay empty", empty.balance(20), 1);
    }

    /** These pairs come back to the first round after five: they never come to rest. */
    private void roundsRunOut() {
        for (int rounds = 1; rounds <= 20; rounds++) {
            checks.same("all rounds", duel(1, 1, 10, 10).balance(rounds), rounds);
        }
        ToneLoader x = duel(1, 1, 10, 10);
        x.balance(20);
        checkTone("round 20 is as round 5", x, 0, 1, 10);
        checkTone("round 20 is as round 5", x, 1, 0, 0);
        x.balance(1);
        checkTone("round 21 is as round 1", x, 0, 3, 7);
        checkTone("round 21 is as round 1", x, 1, 1, 8);
    }

    private void settlesInTheTwentiethRound() {
        ToneLoader x = duel(10, 1, 500, 700);
        checks.same("20 rounds", x.balance(20), 20);
        checkTone("no bit", x, 0, 0, 0);
        checkTone("9 bits", x, 1, 9, 511);
        checks.same("it had come to rest", x.balance(20), 1);
    }

    private void oneRoundTooFew() {
        ToneLoader x = duel(1, 1, 100, 150);
        checks.same("the twentieth still changes", x.balance(20), 20);
        checkTone("no bit", x, 0, 0, 0);
        checkTone("7 bits", x, 1, 7, 127);
        checks.same("the next changes nothing", x.balance(20), 1);
        ToneLoader y = duel(1, 1, 100, 150);
        y.balance(19);
        checkTone("the nineteenth", y, 0, 1, 99);
        checkTone("the nineteenth", y, 1, 1, 100);
        checks.same("and two more", y.balance(20), 2);
    }

    /** 1 bit at noise 300 and 2 bits at noise 100 have the same energy. */
    private void bitsAloneAreAChange() {
        for (int pair = 0; pair < 2; pair++) {
            ToneLoader x = Scenes.toneZeroAlone();
            x.setNoise(pair, 0, 300);
            x.setBudget(pair, 300);
            x.setBudget(1 - pair, 0);
            x.balance(20);
            checkTone("1 bit", x, pair, 1, 300);
            x.setNoise(pair, 0, 100);
            checks.same("a change, and a round without", x.balance(20), 2);
            checkTone("2 bits", x, pair, 2, 300);
        }
    }

    private void anEnergyAloneIsAChange() {
        for (int pair = 0; pair < 2; pair++) {
            for (int tone = 0; tone < 16; tone += 15) {
                ToneLoader x = Scenes.loaded();
                x.setBudget(0, 2450);
                x.setBudget(1, 2450);
                checks.same("nothing changes", x.balance(20), 1);
                x.setNoise(pair, tone, tone == 0 ? 99 : 101);
                checks.same("a change, and a round without", x.balance(20), 2);
                checks.same("the bits are as before", x.bits(pair, tone, 0), tone == 0 ? 2 : 1);
                checks.same("the bits are as before", x.rate(pair), 20);
            }
        }
    }

    /** Pair 0 alone changes, or pair 1 alone. */
    private void eitherPairIsLookedAt() {
        for (int pair = 0; pair < 2; pair++) {
            ToneLoader x = Scenes.toneZeroAlone();
            x.setBudget(0, 100);
            x.setBudget(1, 100);
            x.balance(20);
            x.setBudget(pair, 300);
            checks.same("a change, and a round without", x.balance(20), 2);
            checks.same("2 bits", x.bits(pair, 0, 0), 2);
            checks.same("1 bit", x.bits(1 - pair, 0, 0), 1);
        }
    }

    /** A round that only brings a sender back into step changes neither bits nor energies. */
    private void theSenderIsNotLookedAt() {
        ToneLoader x = Scenes.requested();
        x.setBudget(0, 2400);
        x.setBudget(1, 2400);
        x.deliver(0, 0, false);
        x.run(8);
        checks.same("apart", x.inStep(0), false);
        checks.same("one round", x.balance(20), 1);
        checks.same("in step", x.inStep(0), true);
    }

    private void balanceIsOneSavedState() {
        ToneLoader x = duel(1, 1, 100, 150);
        x.setBudget(1, 151);
        x.setBudget(1, 150);
        checks.same("20 rounds", x.balance(20), 20);
        edges.answers("undo", x, ToneLoader::undo, 3);
        checks.same("nothing is loaded", x.rate(0) + x.rate(1), 0);
        edges.answers("undo", x, ToneLoader::undo, 2);
        checks.same("the budget before", x.setBudget(1, 150), 151);
    }
}
