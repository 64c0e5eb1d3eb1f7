import java.util.Random;
import java.util.function.Supplier;

/** Long runs of drawn calls, wrong ones among them, answered by ToneLoader as by NaiveLoader. */
public final class ModelTest {
    private static final int RUNS = 160;
    // The document promises nothing beyond the 512th call; a step makes at most 14.
    private static final int MOST_CALLS = 512 - 14;

    private final Checks checks;
    private final Random random;
    private final ToneLoader loader = new ToneLoader();
    private final NaiveLoader model = new NaiveLoader();
    private int calls = 0;
    private final StringBuilder story = new StringBuilder();

    private ModelTest(Checks checks, long seed) {
        this.checks = checks;
        this.random = new Random(seed);
    }

    public static void main(String[] args) {
        Checks checks = new Checks("ModelTest");
        for (int run = 0; run < RUNS && checks.allDue(); run++) {
            new ModelTest(checks, run).play(run);
        }
        checks.end();
    }

    private void play(int run) {
        int style = run % 4;
        while (calls < MOST_CALLS && checks.allDue()) {
            step(style);
            compare("digest()", loader::digest, model::digest);
        }
        if (!checks.allDue()) {
            System.out.println("run " + run + ":" + story);
        }
    }

    private void step(int style) {
        int draw = random.nextInt(100);
        if (style == 0 && draw < 55) {
            setSomething();
        } else if (style == 1 && draw < 70) {
            swapSomething();
        } else if (style == 2 && draw < 40) {
            loadSomething();
        } else {
            switch (random.nextInt(5)) {
                case 0 -> setSomething();
                case 1 -> loadSomething();
                case 2 -> swapSomething();
                case 3 -> askSomething();
                default -> undoSometimes();
            }
        }
    }

    private int pair() {
        return random.nextInt(60) == 0 ? random.nextInt(9) - 4 : random.nextInt(2);
    }

    private int tone() {
        int wild = random.nextInt(60);
        if (wild == 0) {
            return random.nextBoolean() ? -1 : 16;
        }
        return wild < 30 ? random.nextInt(3) : random.nextInt(16);
    }

    private int within(int least, int most) {
        switch (random.nextInt(20)) {
            case 0: return least;
            case 1: return most;
            case 2: return random.nextInt(4) == 0 ? least - 1 : least;
            case 3: return random.nextInt(4) == 0 ? most + 1 : most;
            default: return least + random.nextInt(most - least + 1);
        }
    }

    private void setSomething() {
        int p = pair();
        int t = tone();
        switch (random.nextInt(4)) {
            case 0 -> {
                int v = random.nextBoolean() ? within(1, 10000) : within(1, 300);
                compare("setNoise(" + p + ", " + t + ", " + v + ")",
                        () -> loader.setNoise(p, t, v), () -> model.setNoise(p, t, v));
            }
            case 1 -> {
                int v = within(0, 1000);
                compare("setCoupling(" + p + ", " + t + ", " + v + ")",
                        () -> loader.setCoupling(p, t, v), () -> model.setCoupling(p, t, v));
            }
            case 2 -> {
                int v = within(0, 12);
                compare("setLimit(" + p + ", " + t + ", " + v + ")",
                        () -> loader.setLimit(p, t, v), () -> model.setLimit(p, t, v));
            }
            default -> {
                int v = random.nextInt(3) == 0 ? within(0, 1000000000) : within(0, 40000);
                compare("setBudget(" + p + ", " + v + ")",
                        () -> loader.setBudget(p, v), () -> model.setBudget(p, v));
            }
        }
    }

    private void loadSomething() {
        int p = pair();
        switch (random.nextInt(4)) {
            case 0 -> compare("loadRate(" + p + ")",
                    () -> loader.loadRate(p), () -> model.loadRate(p));
            case 1 -> {
                int v = within(0, 192);
                compare("loadBits(" + p + ", " + v + ")",
                        () -> loader.loadBits(p, v), () -> model.loadBits(p, v));
            }
            case 2 -> compare("repair(" + p + ")",
                    () -> loader.repair(p), () -> model.repair(p));
            default -> {
                int v = within(1, 4) == 4 ? within(1, 20) : within(1, 3);
                compare("balance(" + v + ")", () -> loader.balance(v), () -> model.balance(v));
            }
        }
    }

    private void swapSomething() {
        int p = pair();
        switch (random.nextInt(8)) {
            case 0, 1 -> {
                int from = tone();
                int to = tone();
                compare("request(" + p + ", " + from + ", " + to + ")",
                        () -> loader.request(p, from, to), () -> model.request(p, from, to));
            }
            case 2 -> compare("resend(" + p + ")",
                    () -> loader.resend(p), () -> model.resend(p));
            case 3 -> {
                int v = random.nextInt(12) == 0 ? within(0, 1000) : within(0, 9);
                compare("run(" + v + ")", () -> loader.run(v), () -> model.run(v));
            }
            case 4 -> {
                int t = tone();
                int v = within(0, 12);
                compare("setLimit(" + p + ", " + t + ", " + v + ")",
                        () -> loader.setLimit(p, t, v), () -> model.setLimit(p, t, v));
            }
            default -> {
                int message = random.nextInt(40) == 0 ? 2 : random.nextInt(2);
                boolean lost = random.nextInt(5) == 0;
                compare("deliver(" + p + ", " + message + ", " + lost + ")",
                        () -> loader.deliver(p, message, lost),
                        () -> model.deliver(p, message, lost));
            }
        }
    }

    private void askSomething() {
        int p = pair();
        int t = tone();
        int end = random.nextInt(30) == 0 ? 2 : random.nextInt(2);
        compare("bits(" + p + ", " + t + ", " + end + ")",
                () -> loader.bits(p, t, end), () -> model.bits(p, t, end));
        compare("rate(" + p + ")", () -> loader.rate(p), () -> model.rate(p));
        compare("energy(" + p + ", " + t + ")",
                () -> loader.energy(p, t), () -> model.energy(p, t));
        compare("totalEnergy(" + p + ")",
                () -> loader.totalEnergy(p), () -> model.totalEnergy(p));
        compare("disturbedNoise(" + p + ", " + t + ")",
                () -> loader.disturbedNoise(p, t), () -> model.disturbedNoise(p, t));
        compare("margin(" + p + ", " + t + ")",
                () -> loader.margin(p, t), () -> model.margin(p, t));
        compare("leastMargin(" + p + ")",
                () -> loader.leastMargin(p), () -> model.leastMargin(p));
        compare("badTones(" + p + ")", () -> loader.badTones(p), () -> model.badTones(p));
        compare("isEfficient(" + p + ")",
                () -> loader.isEfficient(p), () -> model.isEfficient(p));
        compare("meanBits(" + p + ")", () -> loader.meanBits(p), () -> model.meanBits(p));
        compare("suggest(" + p + ")", () -> loader.suggest(p), () -> model.suggest(p));
        compare("inStep(" + p + ")", () -> loader.inStep(p), () -> model.inStep(p));
        compare("brokenFrames(" + p + ")",
                () -> loader.brokenFrames(p), () -> model.brokenFrames(p));
    }

    private void undoSometimes() {
        if (random.nextInt(3) == 0) {
            compare("undo()", loader::undo, model::undo);
        }
    }

    private void compare(String call, Supplier<Object> got, Supplier<Object> due) {
        calls++;
        Object answer = answer(got);
        checks.same(call, answer, answer(due));
        story.append("\n  ").append(call).append(" = ").append(answer);
    }

    private static Object answer(Supplier<Object> call) {
        try {
            return call.get();
        } catch (RuntimeException thrown) {
            return thrown.getClass();
        }
    }
}
