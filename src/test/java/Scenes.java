import java.util.LinkedHashMap;
import java.util.Map;

/** States to try a call in; each can be made as often as needed, with well under 100 calls. */
final class Scenes {
    /** Makes a new object and leads it into a state. */
    interface Scene {
        ToneLoader make();
    }

    private Scenes() { }

    static Map<String, Scene> all() {
        Map<String, Scene> scenes = new LinkedHashMap<>();
        scenes.put("a new object", ToneLoader::new);
        scenes.put("loaded", Scenes::loaded);
        scenes.put("requested", Scenes::requested);
        scenes.put("both messages on their way", Scenes::bothOnWay);
        scenes.put("noted", Scenes::noted);
        scenes.put("apart", Scenes::apart);
        scenes.put("crowded", Scenes::crowded);
        return scenes;
    }

    /** Tones 0 to 3 of both pairs have 2 bits, the others 1. */
    static ToneLoader loaded() {
        ToneLoader x = new ToneLoader();
        x.loadBits(0, 20);
        x.loadBits(1, 20);
        return x;
    }

    /** An open request and its message, for both pairs. */
    static ToneLoader requested() {
        ToneLoader x = loaded();
        x.request(0, 0, 5);
        x.request(1, 1, 6);
        return x;
    }

    /** A request message and an answer message on their way, for both pairs, in frame 3. */
    static ToneLoader bothOnWay() {
        ToneLoader x = requested();
        x.deliver(0, 0, false);
        x.deliver(1, 0, false);
        x.resend(0);
        x.resend(1);
        x.run(3);
        return x;
    }

    /** Both pairs have noted frame 8 and have not come to it; both request messages remain. */
    static ToneLoader noted() {
        ToneLoader x = bothOnWay();
        x.deliver(0, 1, false);
        x.deliver(1, 1, false);
        return x;
    }

    /** Frame 10: the sender of pair 0 has swapped and its answer is lost; pair 1 has swapped. */
    static ToneLoader apart() {
        ToneLoader x = requested();
        x.deliver(0, 0, false);
        x.deliver(0, 1, true);
        x.deliver(1, 0, false);
        x.deliver(1, 1, false);
        x.run(10);
        return x;
    }

    /** Pairs that disturb each other, with bad tones, full tones and tables that waste energy. */
    static ToneLoader crowded() {
        ToneLoader x = new ToneLoader();
        for (int tone = 0; tone < 16; tone++) {
            x.setLimit(0, tone, tone < 4 ? 3 : 1);
            x.setNoise(1, tone, 10 + 7 * tone);
        }
        x.setCoupling(0, 1, 1000);
        x.setCoupling(1, 2, 700);
        x.loadBits(1, 60);
        x.loadBits(0, 24);
        x.setNoise(0, 3, 900);
        x.setBudget(1, 5000);
        return x;
    }

    /** Tone 0 alone can carry bits, in both pairs; nothing else differs from a new object. */
    static ToneLoader toneZeroAlone() {
        ToneLoader x = new ToneLoader();
        for (int tone = 1; tone < 16; tone++) {
            x.setLimit(0, tone, 0);
            x.setLimit(1, tone, 0);
        }
        return x;
    }
}
