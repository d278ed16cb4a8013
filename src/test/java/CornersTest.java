import java.util.Arrays;
import java.util.List;

/**
 * Every call with every choice of edges for its numbers, in a few states: the class answers as the model does,
 * and behind it has the same nets and walks.
 */
public final class CornersTest {
    private static final int LEAST = Integer.MIN_VALUE;
    private static final int MOST = Integer.MAX_VALUE;
    /** So few that with those that make the state and look at it an object has at most 512. */
    private static final int CALLS = 100;
    private static final int[] NETS = {LEAST, -1, 0, 1, 2, 5, 6, MOST};
    private static final int[] WALKS = {LEAST, -1, 0, 1, 2, 3, 11, 12, MOST};
    private static final int[] PLACES = {LEAST, -2, -1, 0, 1, 2, 11, 12, 1 << 30, MOST};
    private static final int[] DOORS = {LEAST, -1, 0, 1, 2, 3, 4, 1 << 30, MOST};
    private static final int[] NUMBERS = {LEAST, -101, -100, 0, 1, 100, 101, MOST};
    private static final int[] STEPS = {LEAST, -1, 0, 1, 2, 59, 60, 61, MOST};
    private static final int[] WHATS = {LEAST, -1, 0, 1, 2, 3, MOST};
    private static final int[] YES_OR_NO = {0, 1};

    private static final List<String> CHANGING = List.of("net", "join", "mark", "walk", "set", "spread", "step", "back", "copy");

    private static final String[] EMPTY = {};
    /** Nets of 1, 2 and 12 places; walks that are empty, at the last time, at the last weight, and on their way. */
    private static final String[] MIXED = {
        "net 1 2", "net 2 3", "net 12 4", "join 1 0 0 1 0", "join 1 0 2 1 1", "join 2 0 0 11 3", "join 2 1 1 1 2", "mark 1 1 1", "mark 2 11 1",
        "walk 0", "set 0 0 0 2", "step 0 60", "walk 1", "set 1 0 1 3", "step 1 2", "walk 1", "walk 0", "set 3 0 1 1", "step 3 58"};
    /** Six nets and twelve walks, of two places each. */
    private static final String[] FULL = {
        "net 2 2", "net 2 3", "net 2 4", "net 2 2", "net 2 3", "net 1 4", "join 0 0 0 1 1", "join 1 0 0 1 1", "join 2 0 0 1 1", "mark 0 0 1", "mark 2 1 1",
        "walk 0", "walk 0", "walk 1", "walk 1", "walk 2", "walk 2", "walk 0", "walk 0", "walk 1", "walk 1", "walk 2", "walk 2",
        "spread 0 100", "set 1 0 1 -1", "step 1 59", "spread 2 -1", "step 2 18", "spread 3 7", "set 11 0 0 1", "step 11 31"};

    private static final Due due = new Due();

    private final String[] state;
    private WaveWalk tried;
    private Model model;
    private int calls;

    private CornersTest(String[] state) {
        this.state = state;
        makeAnew();
    }

    public static void main(String[] args) {
        for (String[] state : new String[][] {EMPTY, MIXED, FULL}) {
            new CornersTest(state).all();
        }
        due.end();
    }

    private void all() {
        corners("net", PLACES, DOORS);
        corners("join", NETS, PLACES, DOORS, PLACES, DOORS);
        corners("leads", NETS, PLACES, DOORS);
        corners("mark", NETS, PLACES, YES_OR_NO);
        corners("alike", NETS, PLACES);
        corners("walk", new int[][] {NETS});
        corners("set", WALKS, PLACES, DOORS, NUMBERS);
        corners("spread", WALKS, NUMBERS);
        corners("step", WALKS, STEPS);
        corners("back", WALKS, STEPS);
        corners("at", WALKS, PLACES, DOORS);
        corners("share", WALKS, PLACES);
        corners("of", WALKS, WHATS);
        corners("arrives", WALKS, PLACES, STEPS);
        corners("returns", WALKS, STEPS);
        corners("best", WALKS, STEPS);
        corners("mean", WALKS, PLACES, STEPS);
        corners("copy", WALKS, WALKS);
        corners("count", new int[][] {WHATS});
    }

    private void corners(String name, int[]... choices) {
        choose(name, choices, new int[choices.length], 0);
        compareAll(name);
        makeAnew();
    }

    private void choose(String name, int[][] choices, int[] chosen, int next) {
        if (next == choices.length) {
            ask(name, chosen);
            return;
        }
        for (int each : choices[next]) {
            chosen[next] = each;
            choose(name, choices, chosen, next + 1);
        }
    }

    private void ask(String name, int[] a) {
        String want = model.answer(name, a);
        String got = Asked.answer(tried, name, a);
        due.is(name + Arrays.toString(a) + " answered " + got + ", due is " + want + ": like", got.equals(want) ? 1 : 0, 1);
        calls++;
        boolean mayChange = !want.endsWith("Exception") && !want.equals("false") && !want.equals("-1");
        boolean changes = mayChange && CHANGING.contains(name);
        if (changes || calls >= CALLS) {
            compareAll(name + Arrays.toString(a));
            makeAnew();
        }
    }

    private void makeAnew() {
        tried = new WaveWalk();
        model = new Model();
        calls = 0;
        for (String call : state) {
            String[] words = call.split(" ");
            int[] a = Arrays.stream(words).skip(1).mapToInt(Integer::parseInt).toArray();
            String want = model.answer(words[0], a);
            due.isTrue(call, want.equals(Asked.answer(tried, words[0], a)) && !want.equals("-1"));
        }
    }

    private void compareAll(String behind) {
        same(behind, "count", 0);
        same(behind, "count", 1);
        for (int net = 0; net < model.nets.size(); net++) {
            same(behind, "alike", net, -1);
            for (int i = 0; i < model.nets.get(net).places * model.nets.get(net).doors; i++) {
                same(behind, "leads", net, i / model.nets.get(net).doors, i % model.nets.get(net).doors);
            }
        }
        for (int walk = 0; walk < model.walks.size(); walk++) {
            Model.Net net = model.nets.get(model.walks.get(walk).net);
            same(behind, "of", walk, 0);
            same(behind, "of", walk, 1);
            for (int i = 0; i < net.places * net.doors; i++) {
                same(behind, "at", walk, i / net.doors, i % net.doors);
            }
        }
    }

    private void same(String behind, String name, int... a) {
        String want = model.answer(name, a);
        String got = Asked.answer(tried, name, a);
        due.is("behind " + behind + " " + name + Arrays.toString(a) + " is " + want, got.equals(want) ? 1 : 0, 1);
    }
}
