import java.math.BigInteger;
import java.util.ArrayDeque;
import java.util.ArrayList;
import java.util.Deque;
import java.util.List;

/**
 * The document once more, word by word and without any thrift: whole numbers without a bound,
 * messages as objects, every move tried, states copied whole. ModelTest holds ToneLoader to it.
 */
final class NaiveLoader {
    static final int NONE = -1;
    private static final BigInteger MOST_ENERGY = BigInteger.valueOf(1000000000000L);

    /** A request, and the message that carries it. */
    record Request(int number, int from, int to) { }

    /** What the sender has agreed to. */
    record Agreement(int number, int from, int to, int frame) { }

    /** An answer message. */
    record Answer(int number, int frame) { }

    private static final class Tone {
        int noise = 100;
        int coupling = 0;
        int limit = 12;
        int receiver = 0;
        int sender = 0;
        BigInteger energy = BigInteger.ZERO;

        Tone copy() {
            Tone copy = new Tone();
            copy.noise = noise;
            copy.coupling = coupling;
            copy.limit = limit;
            copy.receiver = receiver;
            copy.sender = sender;
            copy.energy = energy;
            return copy;
        }
    }

    private static final class Pair {
        List<Tone> tones = new ArrayList<>();
        int budget = 1000000;
        int broken = 0;
        int requestsMade = 0;
        Request open = null;
        Integer noted = null;
        Request requestMessage = null;
        Answer answerMessage = null;
        Agreement agreement = null;

        Pair() {
            for (int t = 0; t < 16; t++) {
                tones.add(new Tone());
            }
        }

        Pair copy() {
            Pair copy = new Pair();
            copy.tones.clear();
            for (Tone tone : tones) {
                copy.tones.add(tone.copy());
            }
            copy.budget = budget;
            copy.broken = broken;
            copy.requestsMade = requestsMade;
            copy.open = open;
            copy.noted = noted;
            copy.requestMessage = requestMessage;
            copy.answerMessage = answerMessage;
            copy.agreement = agreement;
            return copy;
        }
    }

    private record Saved(int frames, Pair first, Pair second) { }

    private int frames = 0;
    private Pair[] pairs = {new Pair(), new Pair()};
    private final Deque<Saved> saved = new ArrayDeque<>();

    private void save() {
        saved.addLast(new Saved(frames, pairs[0].copy(), pairs[1].copy()));
        if (saved.size() > 4) {
            saved.removeFirst();
        }
    }

    private Pair pair(int pair) {
        if (pair < 0 || pair > 1) {
            throw new IndexOutOfBoundsException();
        }
        return pairs[pair];
    }

    private Tone tone(int pair, int tone) {
        Pair line = pair(pair);
        if (tone < 0 || tone > 15) {
            throw new IndexOutOfBoundsException();
        }
        return line.tones.get(tone);
    }

    private static void range(int value, int least, int most) {
        if (value < least || value > most) {
            throw new IllegalArgumentException();
        }
    }

    private static void state(boolean bad) {
        if (bad) {
            throw new IllegalStateException();
        }
    }

    int setNoise(int pair, int tone, int noise) {
        Tone place = tone(pair, tone);
        range(noise, 1, 10000);
        save();
        int before = place.noise;
        place.noise = noise;
        return before;
    }

    int setCoupling(int pair, int tone, int coupling) {
        Tone place = tone(pair, tone);
        range(coupling, 0, 1000);
        save();
        int before = place.coupling;
        place.coupling = coupling;
        return before;
    }

    int setLimit(int pair, int tone, int limit) {
        Tone place = tone(pair, tone);
        range(limit, 0, 12);
        state(limit < place.receiver);
        state(limit < place.sender);
        save();
        int before = place.limit;
        place.limit = limit;
        return before;
    }

    int setBudget(int pair, int budget) {
        Pair line = pair(pair);
        range(budget, 0, 1000000000);
        save();
        int before = line.budget;
        line.budget = budget;
        return before;
    }

    private BigInteger disturbed(int pair, int tone) {
        Tone place = pairs[pair].tones.get(tone);
        BigInteger e = pairs[1 - pair].tones.get(tone).energy;
        BigInteger added = BigInteger.valueOf(place.coupling).multiply(e)
                .divide(BigInteger.valueOf(1000));
        return BigInteger.valueOf(place.noise).add(added);
    }

    private BigInteger need(int pair, int tone, int bits) {
        return BigInteger.TWO.pow(bits).subtract(BigInteger.ONE).multiply(disturbed(pair, tone));
    }

    private BigInteger step(int pair, int tone) {
        int bits = pairs[pair].tones.get(tone).receiver;
        return need(pair, tone, bits + 1).subtract(need(pair, tone, bits));
    }

    private BigInteger needs(int pair) {
        BigInteger sum = BigInteger.ZERO;
        for (int t = 0; t < 16; t++) {
            sum = sum.add(need(pair, t, pairs[pair].tones.get(t).receiver));
        }
        return sum;
    }

    private int smallestStep(int pair, int except) {
        int best = NONE;
        for (int t = 15; t >= 0; t--) {
            Tone place = pairs[pair].tones.get(t);
            if (t != except && place.receiver < place.limit
                    && (best == NONE || step(pair, t).compareTo(step(pair, best)) <= 0)) {
                best = t;
            }
        }
        return best;
    }

    private void setEnergy(int pair, int tone) {
        Tone place = pairs[pair].tones.get(tone);
        place.energy = need(pair, tone, place.receiver).min(MOST_ENERGY);
    }

    private void finish(int pair) {
        Pair line = pairs[pair];
        for (int t = 0; t < 16; t++) {
            setEnergy(pair, t);
            line.tones.get(t).sender = line.tones.get(t).receiver;
        }
        line.open = null;
        line.noted = null;
        line.requestMessage = null;
        line.answerMessage = null;
        line.agreement = null;
        line.requestsMade = 0;
    }

    private void clear(int pair) {
        for (Tone place : pairs[pair].tones) {
            place.receiver = 0;
        }
    }

    private void fillForRate(int pair) {
        clear(pair);
        while (true) {
            int taken = smallestStep(pair, NONE);
            if (taken == NONE) {
                break;
            }
            Tone place = pairs[pair].tones.get(taken);
            place.receiver++;
            if (needs(pair).compareTo(BigInteger.valueOf(pairs[pair].budget)) > 0) {
                place.receiver--;
                break;
            }
        }
        finish(pair);
    }

    int loadRate(int pair) {
        pair(pair);
        save();
        fillForRate(pair);
        return rate(pair);
    }

    long loadBits(int pair, int target) {
        pair(pair);
        range(target, 0, 192);
        int room = 0;
        for (Tone place : pairs[pair].tones) {
            room += place.limit;
        }
        state(room < target);
        save();
        clear(pair);
        while (rate(pair) < target) {
            pairs[pair].tones.get(smallestStep(pair, NONE)).receiver++;
        }
        finish(pair);
        return totalEnergy(pair);
    }

    private BigInteger lastCost(int pair, int tone) {
        int bits = pairs[pair].tones.get(tone).receiver;
        return need(pair, tone, bits).subtract(need(pair, tone, bits - 1));
    }

    int repair(int pair) {
        pair(pair);
        save();
        int moved = 0;
        while (!isEfficient(pair)) {
            int dearest = NONE;
            for (int t = 0; t < 16; t++) {
                if (pairs[pair].tones.get(t).receiver > 0 && (dearest == NONE
                        || lastCost(pair, t).compareTo(lastCost(pair, dearest)) >= 0)) {
                    dearest = t;
                }
            }
            int cheapest = smallestStep(pair, NONE);
            pairs[pair].tones.get(dearest).receiver--;
            pairs[pair].tones.get(cheapest).receiver++;
            moved++;
        }
        finish(pair);
        return moved;
    }

    private List<Object> tables() {
        List<Object> all = new ArrayList<>();
        for (Pair line : pairs) {
            for (Tone place : line.tones) {
                all.add(place.receiver);
                all.add(place.energy);
            }
        }
        return all;
    }

    int balance(int rounds) {
        range(rounds, 1, 20);
        save();
        for (int made = 1; made < rounds; made++) {
            List<Object> before = tables();
            fillForRate(0);
            fillForRate(1);
            if (tables().equals(before)) {
                return made;
            }
        }
        fillForRate(0);
        fillForRate(1);
        return rounds;
    }

    int bits(int pair, int tone, int end) {
        Tone place = tone(pair, tone);
        range(end, 0, 1);
        return end == 1 ? place.sender : place.receiver;
    }

    int rate(int pair) {
        int sum = 0;
        for (Tone place : pair(pair).tones) {
            sum += place.receiver;
        }
        return sum;
    }

    long energy(int pair, int tone) {
        return tone(pair, tone).energy.longValueExact();
    }

    long totalEnergy(int pair) {
        BigInteger sum = BigInteger.ZERO;
        for (Tone place : pair(pair).tones) {
            sum = sum.add(place.energy);
        }
        return sum.longValueExact();
    }

    long disturbedNoise(int pair, int tone) {
        tone(pair, tone);
        return disturbed(pair, tone).longValueExact();
    }

    long margin(int pair, int tone) {
        Tone place = tone(pair, tone);
        if (place.receiver == 0) {
            return NONE;
        }
        return place.energy.multiply(BigInteger.valueOf(100))
                .divide(need(pair, tone, place.receiver)).longValueExact();
    }

    private int weakest(int pair) {
        int weakest = NONE;
        for (int t = 15; t >= 0; t--) {
            if (pairs[pair].tones.get(t).receiver > 0
                    && (weakest == NONE || margin(pair, t) <= margin(pair, weakest))) {
                weakest = t;
            }
        }
        return weakest;
    }

    long leastMargin(int pair) {
        pair(pair);
        return weakest(pair) == NONE ? NONE : margin(pair, weakest(pair));
    }

    int badTones(int pair) {
        int set = 0;
        for (int t = 0; t < 16; t++) {
            if (pair(pair).tones.get(t).receiver > 0 && margin(pair, t) < 100) {
                set += 1 << t;
            }
        }
        return set;
    }

    boolean isEfficient(int pair) {
        pair(pair);
        BigInteger now = needs(pair);
        for (Tone from : pairs[pair].tones) {
            for (Tone to : pairs[pair].tones) {
                if (from != to && from.receiver > 0 && to.receiver < to.limit) {
                    from.receiver--;
                    to.receiver++;
                    BigInteger then = needs(pair);
                    from.receiver++;
                    to.receiver--;
                    if (then.compareTo(now) < 0) {
                        return false;
                    }
                }
            }
        }
        return true;
    }

    double meanBits(int pair) {
        return rate(pair) / 16.0;
    }

    int request(int pair, int from, int to) {
        Tone source = tone(pair, from);
        Tone goal = tone(pair, to);
        if (from == to) {
            throw new IllegalArgumentException();
        }
        Pair line = pairs[pair];
        state(line.open != null);
        state(source.receiver == 0);
        state(goal.receiver >= goal.limit);
        state(!inStep(pair));
        save();
        line.open = new Request(line.requestsMade % 8, from, to);
        line.noted = null;
        line.requestsMade++;
        line.requestMessage = line.open;
        return line.open.number();
    }

    int suggest(int pair) {
        pair(pair);
        int from = weakest(pair);
        int to = smallestStep(pair, from);
        return from == NONE || to == NONE ? NONE : 16 * from + to;
    }

    int resend(int pair) {
        Pair line = pair(pair);
        state(line.open == null);
        save();
        line.requestMessage = line.open;
        return line.open.number();
    }

    int deliver(int pair, int message, boolean lost) {
        Pair line = pair(pair);
        range(message, 0, 1);
        state(message == 0 && line.requestMessage == null);
        state(message == 1 && line.answerMessage == null);
        save();
        if (message == 0) {
            Request got = line.requestMessage;
            line.requestMessage = null;
            return lost ? NONE : answer(line, got);
        }
        Answer got = line.answerMessage;
        line.answerMessage = null;
        if (lost || line.open == null || line.open.number() != got.number()) {
            return NONE;
        }
        line.noted = got.frame();
        return got.frame();
    }

    private int answer(Pair line, Request got) {
        if (line.agreement == null || line.agreement.number() != got.number()) {
            line.agreement = new Agreement(got.number(), got.from(), got.to(), frames + 8);
        }
        line.answerMessage = new Answer(got.number(), line.agreement.frame());
        return line.agreement.frame();
    }

    int run(int count) {
        range(count, 0, 1000);
        save();
        for (int i = 0; i < count; i++) {
            frames++;
            for (int p = 0; p < 2; p++) {
                carryOut(p);
            }
            for (int p = 0; p < 2; p++) {
                pairs[p].broken += inStep(p) ? 0 : 1;
            }
        }
        return frames;
    }

    private void carryOut(int pair) {
        Pair line = pairs[pair];
        if (line.agreement != null && line.agreement.frame() == frames) {
            line.tones.get(line.agreement.from()).sender--;
            line.tones.get(line.agreement.to()).sender++;
        }
        if (line.open != null && line.noted != null && line.noted <= frames) {
            line.tones.get(line.open.from()).receiver--;
            line.tones.get(line.open.to()).receiver++;
            setEnergy(pair, line.open.from());
            setEnergy(pair, line.open.to());
            line.open = null;
        }
    }

    boolean inStep(int pair) {
        for (Tone place : pair(pair).tones) {
            if (place.receiver != place.sender) {
                return false;
            }
        }
        return true;
    }

    int brokenFrames(int pair) {
        return pair(pair).broken;
    }

    int undo() {
        state(saved.isEmpty());
        Saved last = saved.removeLast();
        frames = last.frames();
        pairs = new Pair[] {last.first(), last.second()};
        return saved.size();
    }

    long digest() {
        List<Long> values = new ArrayList<>();
        values.add((long) frames);
        for (int p = 0; p < 2; p++) {
            addPair(values, p);
        }
        values.add((long) saved.size());
        long h = 2789;
        for (long v : values) {
            h = 31 * h + v;
        }
        return h;
    }

    private void addPair(List<Long> values, int pair) {
        Pair line = pairs[pair];
        values.add((long) line.budget);
        for (int t = 0; t < 16; t++) {
            Tone place = line.tones.get(t);
            values.add((long) place.noise);
            values.add((long) place.coupling);
            values.add((long) place.limit);
            values.add((long) place.receiver);
            values.add((long) place.sender);
            values.add(place.energy.longValueExact());
            values.add(margin(pair, t));
        }
        values.add(isEfficient(pair) ? 1L : 0L);
        values.add(line.open != null ? 1L : 0L);
        if (line.open != null) {
            values.add((long) line.open.number());
            values.add((long) line.open.from());
            values.add((long) line.open.to());
            values.add(line.noted == null ? (long) NONE : (long) line.noted);
        }
        values.add(line.requestMessage != null ? 1L : 0L);
        values.add(line.answerMessage != null ? 1L : 0L);
        values.add((long) line.broken);
    }
}
