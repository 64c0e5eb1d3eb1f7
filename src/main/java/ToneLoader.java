import java.util.Arrays;

/**
 * A simulator of bit loading on copper pairs with many tones: greedy discrete loading, margins,
 * repair of tables, balancing of two pairs, and bit swaps agreed on between the ends of a pair.
 */
public final class ToneLoader {
    public static final int NONE = -1;

    private static final int TONES = 16;
    private static final int FIRST_NOISE = 100;
    private static final int MOST_NOISE = 10000;
    private static final int MOST_COUPLING = 1000;
    private static final int COUPLING_UNIT = 1000;
    private static final int MOST_BITS = 12;
    private static final int MOST_TABLE_BITS = TONES * MOST_BITS;
    private static final int FIRST_BUDGET = 1000000;
    private static final int MOST_BUDGET = 1000000000;
    private static final long MOST_ENERGY = 1000000000000L;
    private static final int FULL_MARGIN = 100;
    private static final int MOST_ROUNDS = 20;
    private static final int MOST_FRAMES = 1000;
    private static final int REQUEST_NUMBERS = 8;
    private static final int AGREEMENT_DELAY = 8;
    private static final int SAVED_STATES = 4;
    // A repair never takes a bit away again that it has moved, so it moves at most
    // MOST_TABLE_BITS bits; this bound is only there to be seen.
    private static final int MOST_MOVES = 10000;
    private static final long DIGEST_START = 2789;
    private static final long DIGEST_FACTOR = 31;

    private final State now;
    private final State[] saved;
    private int newestSaved;
    private int savedCount;
    private final Plan plan;

    public ToneLoader() {
        now = new State();
        // The saved states are made here and used in turn, so that no call makes an object.
        saved = new State[SAVED_STATES];
        for (int i = 0; i < SAVED_STATES; i++) {
            saved[i] = new State();
        }
        newestSaved = 0;
        savedCount = 0;
        plan = new Plan();
    }

    // ---- pairs and tones

    public int setNoise(int pair, int tone, int noise)
            throws IndexOutOfBoundsException, IllegalArgumentException {
        Pair line = pairAt(pair);
        checkTone(tone);
        checkRange(noise, 1, MOST_NOISE);
        saveState();
        int previous = line.noise[tone];
        line.noise[tone] = noise;
        return previous;
    }

    public int setCoupling(int pair, int tone, int coupling)
            throws IndexOutOfBoundsException, IllegalArgumentException {
        Pair line = pairAt(pair);
        checkTone(tone);
        checkRange(coupling, 0, MOST_COUPLING);
        saveState();
        int previous = line.coupling[tone];
        line.coupling[tone] = coupling;
        return previous;
    }

    public int setLimit(int pair, int tone, int limit)
            throws IndexOutOfBoundsException, IllegalArgumentException, IllegalStateException {
        Pair line = pairAt(pair);
        checkTone(tone);
        checkRange(limit, 0, MOST_BITS);
        if (limit < line.received[tone] || limit < line.sent[tone]) {
            throw new IllegalStateException("the tone has more bits than that");
        }
        saveState();
        int previous = line.limit[tone];
        line.limit[tone] = limit;
        return previous;
    }

    public int setBudget(int pair, int budget)
            throws IndexOutOfBoundsException, IllegalArgumentException {
        Pair line = pairAt(pair);
        checkRange(budget, 0, MOST_BUDGET);
        saveState();
        int previous = line.budget;
        line.budget = budget;
        return previous;
    }

    // ---- loading

    public int loadRate(int pair) throws IndexOutOfBoundsException {
        Pair line = pairAt(pair);
        saveState();
        loadForRate(line, otherOf(pair));
        return line.tableBits();
    }

    public long loadBits(int pair, int target)
            throws IndexOutOfBoundsException, IllegalArgumentException, IllegalStateException {
        Pair line = pairAt(pair);
        checkRange(target, 0, MOST_TABLE_BITS);
        plan.readLine(line, otherOf(pair));
        plan.clearBits();
        if (!plan.fillToTarget(target)) {
            throw new IllegalStateException("the limits leave no room for so many bits");
        }
        saveState();
        plan.settle(line);
        return line.energySum();
    }

    public int repair(int pair) throws IndexOutOfBoundsException {
        Pair line = pairAt(pair);
        saveState();
        plan.readTable(line, otherOf(pair));
        int moves = plan.makeEfficient();
        plan.settle(line);
        return moves;
    }

    public int balance(int rounds) throws IllegalArgumentException {
        checkRange(rounds, 1, MOST_ROUNDS);
        saveState();
        int made = 0;
        boolean changed = true;
        while (changed && made < rounds) {
            boolean changed0 = loadForRate(now.pair0, now.pair1);
            boolean changed1 = loadForRate(now.pair1, now.pair0);
            changed = changed0 || changed1;
            made++;
        }
        return made;
    }

    // ---- values

    public int bits(int pair, int tone, int end)
            throws IndexOutOfBoundsException, IllegalArgumentException {
        Pair line = pairAt(pair);
        checkTone(tone);
        checkRange(end, 0, 1);
        return end == 0 ? line.received[tone] : line.sent[tone];
    }

    public int rate(int pair) throws IndexOutOfBoundsException {
        return pairAt(pair).tableBits();
    }

    public long energy(int pair, int tone) throws IndexOutOfBoundsException {
        Pair line = pairAt(pair);
        checkTone(tone);
        return line.energies[tone];
    }

    public long totalEnergy(int pair) throws IndexOutOfBoundsException {
        return pairAt(pair).energySum();
    }

    public long disturbedNoise(int pair, int tone) throws IndexOutOfBoundsException {
        Pair line = pairAt(pair);
        checkTone(tone);
        return line.noiseBeside(otherOf(pair), tone);
    }

    public long margin(int pair, int tone) throws IndexOutOfBoundsException {
        Pair line = pairAt(pair);
        checkTone(tone);
        return line.marginBeside(otherOf(pair), tone);
    }

    public long leastMargin(int pair) throws IndexOutOfBoundsException {
        Pair line = pairAt(pair);
        Pair other = otherOf(pair);
        int weakest = line.weakestTone(other);
        return weakest < 0 ? NONE : line.marginBeside(other, weakest);
    }

    public int badTones(int pair) throws IndexOutOfBoundsException {
        Pair line = pairAt(pair);
        Pair other = otherOf(pair);
        int set = 0;
        for (int t = 0; t < TONES; t++) {
            long toneMargin = line.marginBeside(other, t);
            if (toneMargin != NONE && toneMargin < FULL_MARGIN) {
                set |= 1 << t;
            }
        }
        return set;
    }

    public boolean isEfficient(int pair) throws IndexOutOfBoundsException {
        Pair line = pairAt(pair);
        return efficient(line, otherOf(pair));
    }

    public double meanBits(int pair) throws IndexOutOfBoundsException {
        return (double) pairAt(pair).tableBits() / 16.0;
    }

    // ---- swaps

    public int request(int pair, int from, int to)
            throws IndexOutOfBoundsException, IllegalArgumentException, IllegalStateException {
        Pair line = pairAt(pair);
        checkTone(from);
        checkTone(to);
        if (from == to) {
            throw new IllegalArgumentException("a swap needs two tones");
        }
        if (line.talk.open || line.apart) {
            throw new IllegalStateException("a swap is under way");
        }
        if (line.received[from] < 1 || line.received[to] >= line.limit[to]) {
            throw new IllegalStateException("no bit to take, or no room for it");
        }
        saveState();
        return line.talk.openRequest(from, to);
    }

    public int suggest(int pair) throws IndexOutOfBoundsException {
        Pair line = pairAt(pair);
        Pair other = otherOf(pair);
        int from = line.weakestTone(other);
        if (from < 0) {
            return NONE;
        }
        plan.readTable(line, other);
        int to = plan.cheapestTone(from);
        return to < 0 ? NONE : TONES * from + to;
    }

    public int resend(int pair) throws IndexOutOfBoundsException, IllegalStateException {
        Talk talk = pairAt(pair).talk;
        if (!talk.open) {
            throw new IllegalStateException("no request is open");
        }
        saveState();
        talk.requestOnWay = true;
        return talk.number;
    }

    public int deliver(int pair, int message, boolean lost)
            throws IndexOutOfBoundsException, IllegalArgumentException, IllegalStateException {
        Talk talk = pairAt(pair).talk;
        checkRange(message, 0, 1);
        boolean onWay = message == 0 ? talk.requestOnWay : talk.answerOnWay;
        if (!onWay) {
            throw new IllegalStateException("no such message is on its way");
        }
        saveState();
        if (message == 0) {
            talk.requestOnWay = false;
            return lost ? NONE : talk.answerRequest(now.frames);
        }
        talk.answerOnWay = false;
        return lost ? NONE : talk.noteAnswer();
    }

    public int run(int frames) throws IllegalArgumentException {
        checkRange(frames, 0, MOST_FRAMES);
        saveState();
        for (int i = 0; i < frames; i++) {
            now.passFrame();
        }
        return now.frames;
    }

    public boolean inStep(int pair) throws IndexOutOfBoundsException {
        return !pairAt(pair).apart;
    }

    public int brokenFrames(int pair) throws IndexOutOfBoundsException {
        return pairAt(pair).broken;
    }

    // ---- state

    public int undo() throws IllegalStateException {
        if (savedCount < 1) {
            throw new IllegalStateException("there is no saved state");
        }
        now.copyFrom(saved[Math.floorMod(newestSaved, SAVED_STATES)]);
        newestSaved = Math.floorMod(newestSaved - 1, SAVED_STATES);
        savedCount--;
        return savedCount;
    }

    public long digest() {
        long hash = DIGEST_START * DIGEST_FACTOR + now.frames;
        hash = hashPair(hash, now.pair0, now.pair1);
        hash = hashPair(hash, now.pair1, now.pair0);
        return hash * DIGEST_FACTOR + savedCount;
    }

    // ---- helpers

    private Pair pairAt(int pair) {
        if (pair != 0 && pair != 1) {
            throw new IndexOutOfBoundsException("no such pair");
        }
        return pair == 0 ? now.pair0 : now.pair1;
    }

    private Pair otherOf(int pair) {
        return pair == 0 ? now.pair1 : now.pair0;
    }

    private static boolean isTone(int tone) {
        return tone >= 0 && tone < TONES;
    }

    private static void checkTone(int tone) {
        if (!isTone(tone)) {
            throw new IndexOutOfBoundsException("no such tone");
        }
    }

    private static void checkRange(int value, int least, int most) {
        if (value < least || value > most) {
            throw new IllegalArgumentException("out of range");
        }
    }

    private void saveState() {
        newestSaved = Math.floorMod(newestSaved + 1, SAVED_STATES);
        saved[newestSaved].copyFrom(now);
        if (savedCount < SAVED_STATES) {
            savedCount++;
        }
    }

    private boolean loadForRate(Pair line, Pair other) {
        plan.readLine(line, other);
        plan.clearBits();
        plan.fillToBudget(line.budget);
        return plan.settle(line);
    }

    private boolean efficient(Pair line, Pair other) {
        plan.readTable(line, other);
        return !plan.canSave(plan.dearestTone(), plan.cheapestTone(NONE));
    }

    private long hashPair(long start, Pair line, Pair other) {
        long hash = start * DIGEST_FACTOR + line.budget;
        for (int t = 0; t < TONES; t++) {
            hash = hash * DIGEST_FACTOR + line.noise[t];
            hash = hash * DIGEST_FACTOR + line.coupling[t];
            hash = hash * DIGEST_FACTOR + line.limit[t];
            hash = hash * DIGEST_FACTOR + line.received[t];
            hash = hash * DIGEST_FACTOR + line.sent[t];
            hash = hash * DIGEST_FACTOR + line.energies[t];
            hash = hash * DIGEST_FACTOR + line.marginBeside(other, t);
        }
        hash = hash * DIGEST_FACTOR + (efficient(line, other) ? 1 : 0);
        hash = hashTalk(hash, line.talk);
        return hash * DIGEST_FACTOR + line.broken;
    }

    private static long hashTalk(long start, Talk talk) {
        long hash = start * DIGEST_FACTOR + (talk.open ? 1 : 0);
        if (talk.open) {
            hash = hash * DIGEST_FACTOR + talk.number;
            hash = hash * DIGEST_FACTOR + talk.from;
            hash = hash * DIGEST_FACTOR + talk.to;
            hash = hash * DIGEST_FACTOR + talk.notedFrame;
        }
        hash = hash * DIGEST_FACTOR + (talk.requestOnWay ? 1 : 0);
        return hash * DIGEST_FACTOR + (talk.answerOnWay ? 1 : 0);
    }

    private static long needFor(int bitCount, long noise) {
        return ((1L << bitCount) - 1) * noise;
    }

    private static long cappedEnergy(long need) {
        return need > MOST_ENERGY ? MOST_ENERGY : need;
    }

    /** Everything that undo brings back. */
    private static final class State {
        int frames;
        final Pair pair0;
        final Pair pair1;

        State() {
            frames = 0;
            pair0 = new Pair();
            pair1 = new Pair();
        }

        void copyFrom(State source) {
            frames = source.frames;
            pair0.copyFrom(source.pair0);
            pair1.copyFrom(source.pair1);
        }

        void passFrame() {
            frames++;
            pair0.enterFrame(frames, pair1);
            pair1.enterFrame(frames, pair0);
            pair0.countFrame();
            pair1.countFrame();
        }
    }

    /** A pair: its tones, the numbers of bits at both ends, and what the ends tell each other. */
    private static final class Pair {
        final int[] noise;
        final int[] coupling;
        final int[] limit;
        final int[] received;
        final int[] sent;
        final long[] energies;
        final Talk talk;
        int budget;
        int broken;
        // Kept, because every frame asks for it and few frames change it.
        boolean apart;

        Pair() {
            noise = new int[TONES];
            coupling = new int[TONES];
            limit = new int[TONES];
            received = new int[TONES];
            sent = new int[TONES];
            energies = new long[TONES];
            talk = new Talk();
            Arrays.fill(noise, FIRST_NOISE);
            Arrays.fill(limit, MOST_BITS);
            budget = FIRST_BUDGET;
            broken = 0;
            apart = false;
        }

        void copyFrom(Pair source) {
            System.arraycopy(source.noise, 0, noise, 0, TONES);
            System.arraycopy(source.coupling, 0, coupling, 0, TONES);
            System.arraycopy(source.limit, 0, limit, 0, TONES);
            System.arraycopy(source.received, 0, received, 0, TONES);
            System.arraycopy(source.sent, 0, sent, 0, TONES);
            System.arraycopy(source.energies, 0, energies, 0, TONES);
            talk.copyFrom(source.talk);
            budget = source.budget;
            broken = source.broken;
            apart = source.apart;
        }

        int tableBits() {
            int sum = 0;
            for (int t = 0; t < TONES; t++) {
                sum += received[t];
            }
            return sum;
        }

        long energySum() {
            long sum = 0;
            for (int t = 0; t < TONES; t++) {
                sum += energies[t];
            }
            return sum;
        }

        long noiseBeside(Pair other, int tone) {
            return noise[tone] + coupling[tone] * other.energies[tone] / COUPLING_UNIT;
        }

        long needBeside(Pair other, int tone) {
            return needFor(received[tone], noiseBeside(other, tone));
        }

        long marginBeside(Pair other, int tone) {
            long need = needBeside(other, tone);
            // Only a tone without bits needs nothing.
            return need < 1 ? NONE : 100 * energies[tone] / need;
        }

        int weakestTone(Pair other) {
            int weakest = NONE;
            long least = 0;
            for (int t = 0; t < TONES; t++) {
                long toneMargin = marginBeside(other, t);
                if (toneMargin != NONE && (weakest < 0 || toneMargin < least)) {
                    weakest = t;
                    least = toneMargin;
                }
            }
            return weakest;
        }

        void enterFrame(int frame, Pair other) {
            boolean senderMoves = talk.agreedFrame == frame;
            boolean receiverMoves = talk.isDue(frame);
            if (senderMoves) {
                moveBit(sent, talk.agreedFrom, talk.agreedTo);
            }
            if (receiverMoves) {
                moveBit(received, talk.from, talk.to);
                renewEnergy(talk.from, other);
                renewEnergy(talk.to, other);
                talk.open = false;
            }
            if (senderMoves || receiverMoves) {
                apart = endsDiffer();
            }
        }

        void countFrame() {
            if (apart) {
                broken++;
            }
        }

        private void renewEnergy(int tone, Pair other) {
            if (isTone(tone)) {
                energies[tone] = cappedEnergy(needBeside(other, tone));
            }
        }

        private boolean endsDiffer() {
            for (int t = 0; t < TONES; t++) {
                if (received[t] != sent[t]) {
                    return true;
                }
            }
            return false;
        }

        private static void moveBit(int[] copy, int from, int to) {
            if (isTone(from) && isTone(to)) {
                copy[from]--;
                copy[to]++;
            }
        }
    }

    /** What the two ends of a pair tell each other: the request, the messages, the agreement. */
    private static final class Talk {
        int nextNumber;
        boolean open;
        // The last request, open or not. A request message needs no copy of it: a further
        // request replaces the message, so the message always is that of the last one.
        int number;
        int from;
        int to;
        int notedFrame;
        boolean requestOnWay;
        boolean answerOnWay;
        int answeredNumber;
        int answeredFrame;
        int agreedNumber;
        int agreedFrame;
        int agreedFrom;
        int agreedTo;

        Talk() {
            notedFrame = NONE;
            answeredFrame = NONE;
            agreedNumber = NONE;
            agreedFrame = NONE;
        }

        void copyFrom(Talk source) {
            nextNumber = source.nextNumber;
            open = source.open;
            number = source.number;
            from = source.from;
            to = source.to;
            notedFrame = source.notedFrame;
            requestOnWay = source.requestOnWay;
            answerOnWay = source.answerOnWay;
            answeredNumber = source.answeredNumber;
            answeredFrame = source.answeredFrame;
            agreedNumber = source.agreedNumber;
            agreedFrame = source.agreedFrame;
            agreedFrom = source.agreedFrom;
            agreedTo = source.agreedTo;
        }

        void dropAll() {
            nextNumber = 0;
            open = false;
            requestOnWay = false;
            answerOnWay = false;
            agreedNumber = NONE;
            agreedFrame = NONE;
        }

        int openRequest(int fromTone, int toTone) {
            open = true;
            number = nextNumber;
            from = fromTone;
            to = toTone;
            notedFrame = NONE;
            requestOnWay = true;
            nextNumber = Math.floorMod(nextNumber + 1, REQUEST_NUMBERS);
            return number;
        }

        int answerRequest(int frame) {
            if (agreedNumber != number) {
                agreedNumber = number;
                agreedFrame = frame + AGREEMENT_DELAY;
                agreedFrom = from;
                agreedTo = to;
            }
            answerOnWay = true;
            answeredNumber = agreedNumber;
            answeredFrame = agreedFrame;
            return answeredFrame;
        }

        int noteAnswer() {
            if (!open || answeredNumber != number) {
                return NONE;
            }
            notedFrame = answeredFrame;
            return notedFrame;
        }

        boolean isDue(int frame) {
            return open && notedFrame != NONE && notedFrame <= frame;
        }
    }

    /** A table in the making, so that a pair is changed only when its new table is whole. */
    private static final class Plan {
        final long[] noise;
        final int[] limit;
        final int[] count;

        Plan() {
            noise = new long[TONES];
            limit = new int[TONES];
            count = new int[TONES];
        }

        void readLine(Pair line, Pair other) {
            for (int t = 0; t < TONES; t++) {
                noise[t] = line.noiseBeside(other, t);
            }
            System.arraycopy(line.limit, 0, limit, 0, TONES);
        }

        void readTable(Pair line, Pair other) {
            readLine(line, other);
            System.arraycopy(line.received, 0, count, 0, TONES);
        }

        void clearBits() {
            Arrays.fill(count, 0);
        }

        void fillToBudget(long budget) {
            long needs = 0;
            for (int i = 0; i < MOST_TABLE_BITS; i++) {
                int tone = cheapestTone(NONE);
                if (tone < 0) {
                    return;
                }
                needs += stepOf(tone);
                if (needs > budget) {
                    return;
                }
                count[tone]++;
            }
        }

        boolean fillToTarget(int target) {
            for (int i = 0; i < target; i++) {
                int tone = cheapestTone(NONE);
                if (tone < 0) {
                    return false;
                }
                count[tone]++;
            }
            return true;
        }

        int makeEfficient() {
            int moves = 0;
            while (moves < MOST_MOVES) {
                int from = dearestTone();
                int to = cheapestTone(NONE);
                if (from < 0 || to < 0 || !canSave(from, to)) {
                    return moves;
                }
                count[from]--;
                count[to]++;
                moves++;
            }
            return moves;
        }

        /**
         * Whether a move from the dearest tone to the cheapest one makes the needs smaller. If
         * both are the same tone it does not, and no other move does either, because a tone's
         * step costs more than its last bit.
         */
        boolean canSave(int dearest, int cheapest) {
            return dearest >= 0 && cheapest >= 0 && lastCostOf(dearest) > stepOf(cheapest);
        }

        int cheapestTone(int except) {
            int cheapest = NONE;
            long least = 0;
            for (int t = 0; t < TONES; t++) {
                if (t != except && count[t] < limit[t]) {
                    long step = stepOf(t);
                    if (cheapest < 0 || step < least) {
                        cheapest = t;
                        least = step;
                    }
                }
            }
            return cheapest;
        }

        int dearestTone() {
            int dearest = NONE;
            long most = 0;
            for (int t = 0; t < TONES; t++) {
                if (count[t] > 0) {
                    long cost = lastCostOf(t);
                    if (cost >= most) {
                        dearest = t;
                        most = cost;
                    }
                }
            }
            return dearest;
        }

        /** Makes the plan the table of both ends; tells whether the receiver's table changed. */
        boolean settle(Pair line) {
            boolean changed = false;
            for (int t = 0; t < TONES; t++) {
                long energy = cappedEnergy(needFor(count[t], noise[t]));
                if (line.received[t] != count[t] || line.energies[t] != energy) {
                    changed = true;
                }
                line.received[t] = count[t];
                line.sent[t] = count[t];
                line.energies[t] = energy;
            }
            line.apart = false;
            line.talk.dropAll();
            return changed;
        }

        private long stepOf(int tone) {
            return noise[tone] << count[tone];
        }

        private long lastCostOf(int tone) {
            return noise[tone] << (count[tone] - 1);
        }
    }
}
