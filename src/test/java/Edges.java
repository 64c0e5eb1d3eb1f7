import java.util.ArrayList;
import java.util.List;
import java.util.Map;

/** Holds calls to the edges of what they take, and refused calls to leaving no trace. */
final class Edges {
    static final Class<?> INDEX = IndexOutOfBoundsException.class;
    static final Class<?> ARGUMENT = IllegalArgumentException.class;
    static final Class<?> STATE = IllegalStateException.class;

    /** A call, with its answer. */
    interface Call {
        Object on(ToneLoader x);
    }

    private final Checks checks;

    Edges(Checks checks) {
        this.checks = checks;
    }

    /** The answer, or the class of what was thrown. */
    static Object answer(ToneLoader x, Call call) {
        try {
            return call.on(x);
        } catch (RuntimeException thrown) {
            return thrown.getClass();
        }
    }

    void answers(String sentence, ToneLoader x, Call call, Object due) {
        checks.same(sentence, answer(x, call), due);
    }

    /** The call throws just this, and all later answers are those of an object without the call. */
    void refused(String sentence, Scenes.Scene scene, Class<?> due, Call call) {
        ToneLoader tried = scene.make();
        checks.same(sentence + " throws", answer(tried, call), due);
        checks.same("after " + sentence + ", what follows", onward(tried), onward(scene.make()));
        ToneLoader triedBack = scene.make();
        answer(triedBack, call);
        checks.same("after " + sentence + ", what undo finds", back(triedBack),
                back(scene.make()));
    }

    void refusedEverywhere(String sentence, Class<?> due, Call call) {
        for (Map.Entry<String, Scenes.Scene> scene : Scenes.all().entrySet()) {
            refused(sentence + " (" + scene.getKey() + ")", scene.getValue(), due, call);
        }
    }

    /** Whatever can be asked about an object, and what it answers to a further life. */
    static List<Object> onward(ToneLoader x) {
        List<Object> answers = values(x);
        for (int pair = 0; pair < 2; pair++) {
            int p = pair;
            add(answers, x, y -> y.deliver(p, 1, false));
            add(answers, x, y -> y.deliver(p, 0, false));
            add(answers, x, y -> y.resend(p));
            add(answers, x, y -> y.deliver(p, 0, false));
            add(answers, x, y -> y.deliver(p, 1, false));
        }
        add(answers, x, y -> y.run(5));
        add(answers, x, y -> y.run(9));
        for (int pair = 0; pair < 2; pair++) {
            int p = pair;
            add(answers, x, y -> y.request(p, 2, 3));
            add(answers, x, y -> y.request(p, 1, 9));
            add(answers, x, y -> y.deliver(p, 0, false));
            add(answers, x, y -> y.deliver(p, 1, false));
        }
        add(answers, x, y -> y.run(8));
        add(answers, x, y -> y.repair(0));
        add(answers, x, y -> y.loadRate(1));
        add(answers, x, y -> y.loadBits(0, 30));
        add(answers, x, y -> y.balance(3));
        return answers;
    }

    /** What the saved states hold, down to the last of them. */
    static List<Object> back(ToneLoader x) {
        List<Object> answers = new ArrayList<>();
        for (int i = 0; i < 5; i++) {
            add(answers, x, ToneLoader::undo);
        }
        add(answers, x, y -> y.resend(0));
        add(answers, x, y -> y.deliver(0, 0, false));
        add(answers, x, y -> y.run(9));
        answers.addAll(values(x));
        return answers;
    }

    private static void add(List<Object> answers, ToneLoader x, Call call) {
        answers.add(answer(x, call));
        answers.add(x.digest());
    }

    static List<Object> values(ToneLoader x) {
        List<Object> answers = new ArrayList<>();
        answers.add(x.digest());
        answers.addAll(pairValues(x, 0));
        answers.addAll(pairValues(x, 1));
        return answers;
    }

    static List<Object> pairValues(ToneLoader x, int pair) {
        List<Object> answers = new ArrayList<>();
        for (int tone = 0; tone < 16; tone++) {
            answers.add(x.bits(pair, tone, 0));
            answers.add(x.bits(pair, tone, 1));
            answers.add(x.energy(pair, tone));
            answers.add(x.disturbedNoise(pair, tone));
            answers.add(x.margin(pair, tone));
        }
        answers.add(x.rate(pair));
        answers.add(x.totalEnergy(pair));
        answers.add(x.leastMargin(pair));
        answers.add(x.badTones(pair));
        answers.add(x.isEfficient(pair));
        answers.add(x.meanBits(pair));
        answers.add(x.suggest(pair));
        answers.add(x.inStep(pair));
        answers.add(x.brokenFrames(pair));
        return answers;
    }
}
