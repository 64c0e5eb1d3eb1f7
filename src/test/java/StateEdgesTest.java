import java.util.ArrayDeque;
import java.util.ArrayList;
import java.util.Deque;
import java.util.List;

/** The edges of promise 27: which calls save a state, how many are kept, what one contains. */
public final class StateEdgesTest {
    private final Checks checks = new Checks("StateEdgesTest");
    private final Edges edges = new Edges(checks);

    public static void main(String[] args) {
        StateEdgesTest test = new StateEdgesTest();
        test.noSavedState();
        test.atMostFour();
        test.theOldestIsDroppedFirst();
        test.savedAndUndoneInTurn();
        test.undoIsNotUndoable();
        test.savedEvenIfNothingChanges();
        test.everythingComesBack();
        test.refusedCallsSaveNothing();
        test.statesAreKeptApart();
        test.checks.end();
    }

    /** "if there is no saved state" */
    private void noSavedState() {
        edges.refused("a new object", ToneLoader::new, Edges.STATE, ToneLoader::undo);
        Scenes.Scene undone = () -> {
            ToneLoader x = new ToneLoader();
            x.setNoise(0, 0, 7);
            x.undo();
            return x;
        };
        edges.refused("the only one is undone", undone, Edges.STATE, ToneLoader::undo);
        Scenes.Scene allUndone = () -> {
            ToneLoader x = Scenes.bothOnWay();
            for (int i = 0; i < 4; i++) {
                x.undo();
            }
            return x;
        };
        edges.refused("all four are undone", allUndone, Edges.STATE, ToneLoader::undo);
    }

    /** "at most 4 states are saved" */
    private void atMostFour() {
        for (int calls = 0; calls <= 9; calls++) {
            ToneLoader x = new ToneLoader();
            for (int i = 0; i < calls; i++) {
                x.setBudget(0, i);
            }
            int kept = calls < 4 ? calls : 4;
            for (int left = kept - 1; left >= 0; left--) {
                edges.answers("undo after " + calls, x, ToneLoader::undo, left);
            }
            edges.answers("no more after " + calls, x, ToneLoader::undo, Edges.STATE);
        }
    }

    /** "and the oldest is dropped first" */
    private void theOldestIsDroppedFirst() {
        for (int calls = 1; calls <= 9; calls++) {
            ToneLoader x = new ToneLoader();
            for (int noise = 1; noise <= calls; noise++) {
                x.setNoise(1, 8, noise);
            }
            int undone = calls < 4 ? calls : 4;
            for (int i = 1; i <= undone; i++) {
                x.undo();
                int due = calls == i ? 100 : calls - i;
                checks.same("undo " + i + " of " + calls, x.disturbedNoise(1, 8), due);
            }
        }
    }

    /** Saves and undos mixed, beside a plain list of what is saved. */
    private void savedAndUndoneInTurn() {
        ToneLoader x = new ToneLoader();
        Deque<Integer> saved = new ArrayDeque<>();
        int now = 100;
        String turns = "ssusssuusssssuuuusssuussssssssuususuuuu";
        for (int i = 0; i < turns.length(); i++) {
            if (turns.charAt(i) == 's') {
                saved.push(now);
                if (saved.size() > 4) {
                    saved.removeLast();
                }
                x.setNoise(0, 0, 200 + i);
                now = 200 + i;
            } else if (!saved.isEmpty()) {
                now = saved.pop();
                edges.answers("undo at " + i, x, ToneLoader::undo, saved.size());
            } else {
                edges.answers("undo at " + i, x, ToneLoader::undo, Edges.STATE);
            }
            checks.same("noise at " + i, x.disturbedNoise(0, 0), now);
        }
    }

    /** An undo saves no state: the next one goes further back and not forth again. */
    private void undoIsNotUndoable() {
        ToneLoader x = new ToneLoader();
        x.setNoise(0, 0, 1);
        x.setNoise(0, 0, 2);
        x.setNoise(0, 0, 3);
        checks.same("one back", x.undo(), 2);
        checks.same("one back", x.disturbedNoise(0, 0), 2);
        checks.same("two back", x.undo(), 1);
        checks.same("two back", x.disturbedNoise(0, 0), 1);
        x.setNoise(0, 0, 9);
        checks.same("a call after an undo", x.undo(), 1);
        checks.same("a call after an undo", x.disturbedNoise(0, 0), 1);
    }

    /** "saves the state from before the call, even if the call changes nothing" */
    private void savedEvenIfNothingChanges() {
        List<Edges.Call> calls = new ArrayList<>();
        calls.add(x -> x.setNoise(0, 0, 100));
        calls.add(x -> x.setCoupling(1, 15, 0));
        calls.add(x -> x.setLimit(0, 3, 12));
        calls.add(x -> x.setBudget(0, 1000000));
        calls.add(x -> x.run(0));
        calls.add(x -> x.resend(1));
        for (int i = 0; i < calls.size(); i++) {
            ToneLoader x = new ToneLoader();
            x.loadBits(1, 20);
            x.request(1, 0, 5);
            checkSavedUnchanged("call " + i, x, calls.get(i), 2);
        }
        calls.clear();
        calls.add(x -> x.loadRate(0));
        calls.add(x -> x.loadBits(0, 147));
        calls.add(x -> x.repair(0));
        calls.add(x -> x.balance(1));
        for (int i = 0; i < calls.size(); i++) {
            ToneLoader x = new ToneLoader();
            x.balance(1);
            checkSavedUnchanged("load " + i, x, calls.get(i), 1);
        }
        checkSavedUnchanged("an empty pair", new ToneLoader(), x -> x.repair(1), 0);
    }

    /** The digest ends with the number of saved states, so one more adds 1 and nothing else. */
    private void checkSavedUnchanged(String what, ToneLoader x, Edges.Call call, int saved) {
        long before = x.digest();
        call.on(x);
        checks.same(what + ": one saved state more", x.digest(), before + 1);
        checks.same(what + ": undo", x.undo(), saved);
        checks.same(what + ": as before", x.digest(), before);
    }

    private static List<Edges.Call> undoableCalls() {
        List<Edges.Call> calls = new ArrayList<>();
        for (int pair = 0; pair < 2; pair++) {
            int p = pair;
            calls.add(x -> x.setNoise(p, 0, 10000));
            calls.add(x -> x.setNoise(p, 15, 1));
            calls.add(x -> x.setCoupling(p, 5, 1000));
            calls.add(x -> x.setLimit(p, 15, 1));
            calls.add(x -> x.setLimit(p, 0, 11));
            calls.add(x -> x.setBudget(p, 0));
            calls.add(x -> x.setBudget(p, 1000000000));
            calls.add(x -> x.loadRate(p));
            calls.add(x -> x.loadBits(p, 0));
            calls.add(x -> x.loadBits(p, 20));
            calls.add(x -> x.loadBits(p, 192));
            calls.add(x -> x.repair(p));
            calls.add(x -> x.request(p, 0, 15));
            calls.add(x -> x.resend(p));
            calls.add(x -> x.deliver(p, 0, false));
            calls.add(x -> x.deliver(p, 0, true));
            calls.add(x -> x.deliver(p, 1, false));
            calls.add(x -> x.deliver(p, 1, true));
        }
        calls.add(x -> x.balance(1));
        calls.add(x -> x.balance(20));
        calls.add(x -> x.run(0));
        calls.add(x -> x.run(1));
        calls.add(x -> x.run(5));
        calls.add(x -> x.run(1000));
        return calls;
    }

    /** The scene, with at most three saved states, so that a further one drops none. */
    private static ToneLoader roomForOne(Scenes.Scene scene) {
        ToneLoader x = scene.make();
        x.run(0);
        x.undo();
        return x;
    }

    /** "The saved state contains everything." */
    private void everythingComesBack() {
        List<Edges.Call> calls = undoableCalls();
        boolean[] done = new boolean[calls.size()];
        for (Scenes.Scene scene : Scenes.all().values()) {
            for (int i = 0; i < calls.size(); i++) {
                ToneLoader tried = roomForOne(scene);
                if (!(Edges.answer(tried, calls.get(i)) instanceof Class)) {
                    done[i] = true;
                    tried.undo();
                    checks.same("onward from the undo of call " + i, Edges.onward(tried),
                            Edges.onward(roomForOne(scene)));
                    ToneLoader back = roomForOne(scene);
                    calls.get(i).on(back);
                    back.undo();
                    checks.same("back from the undo of call " + i, Edges.back(back),
                            Edges.back(roomForOne(scene)));
                }
            }
        }
        for (int i = 0; i < done.length; i++) {
            checks.same("call " + i + " was tried", done[i], true);
        }
    }

    /** "Each successful call": what throws saves nothing, so undo finds the call before it. */
    private void refusedCallsSaveNothing() {
        ToneLoader x = new ToneLoader();
        x.setNoise(0, 0, 5);
        edges.answers("setNoise", x, y -> y.setNoise(0, 0, 0), Edges.ARGUMENT);
        edges.answers("setCoupling", x, y -> y.setCoupling(0, 0, 1001), Edges.ARGUMENT);
        edges.answers("setLimit", x, y -> y.setLimit(0, 0, 13), Edges.ARGUMENT);
        edges.answers("setBudget", x, y -> y.setBudget(0, -1), Edges.ARGUMENT);
        edges.answers("loadRate", x, y -> y.loadRate(2), Edges.INDEX);
        edges.answers("loadBits", x, y -> y.loadBits(0, 193), Edges.ARGUMENT);
        edges.answers("repair", x, y -> y.repair(2), Edges.INDEX);
        edges.answers("balance", x, y -> y.balance(0), Edges.ARGUMENT);
        edges.answers("request", x, y -> y.request(0, 0, 1), Edges.STATE);
        edges.answers("resend", x, y -> y.resend(0), Edges.STATE);
        edges.answers("deliver", x, y -> y.deliver(0, 0, false), Edges.STATE);
        edges.answers("run", x, y -> y.run(1001), Edges.ARGUMENT);
        edges.answers("the one saved state", x, ToneLoader::undo, 0);
        checks.same("the one saved state", x.disturbedNoise(0, 0), 100);
        edges.answers("no other", x, ToneLoader::undo, Edges.STATE);
    }

    /** Saved states are copies: neither what comes later nor another object changes them. */
    private void statesAreKeptApart() {
        ToneLoader x = Scenes.loaded();
        ToneLoader y = Scenes.loaded();
        x.setNoise(0, 4, 55);
        x.setLimit(0, 4, 1);
        y.setNoise(0, 4, 66);
        x.loadBits(0, 100);
        y.loadBits(0, 150);
        x.undo();
        checks.same("the table of x", x.rate(0), 20);
        checks.same("the noise of x", x.disturbedNoise(0, 4), 55);
        checks.same("y stays", y.rate(0), 150);
        y.undo();
        checks.same("the noise of y", y.disturbedNoise(0, 4), 66);
        checks.same("the limit of y", y.setLimit(0, 4, 5), 12);
        checks.same("the limit of x", x.setLimit(0, 4, 5), 1);
    }
}
