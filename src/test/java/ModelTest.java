import java.util.Arrays;
import java.util.Map;
import java.util.Random;
import java.util.TreeMap;

/** Runs of at most 512 calls, drawn from fixed seeds: the class answers each as the model does. */
public final class ModelTest {
    private static final int RUNS = 400;
    private static final int CALLS = 512;
    private static final int[] EDGES = {-1, -2, 3, 4, 6, 12, 13, 60, 61, 100, 101, -100, -101, Integer.MAX_VALUE, Integer.MIN_VALUE};
    private static final Due due = new Due();

    private final Random random;
    private final WaveWalk tried = new WaveWalk();
    private final Model model = new Model();
    private final StringBuilder told = new StringBuilder();
    private final Map<String, Integer> answered;
    private int calls = 0;

    private ModelTest(long seed, Map<String, Integer> answered) {
        random = new Random(seed);
        this.answered = answered;
    }

    public static void main(String[] args) {
        int runs = args.length > 0 ? Integer.parseInt(args[0]) : RUNS;
        long firstSeed = args.length > 1 ? Long.parseLong(args[1]) : 0;
        Map<String, Integer> answered = new TreeMap<>();
        for (int run = 0; run < runs && due.wrong() == 0; run++) {
            new ModelTest(firstSeed + run, answered).run();
        }
        needAllKinds(answered);
        if (args.length > 0) {
            System.out.println(answered);
        }
        due.end();
    }

    /** Runs that never draw an answer prove nothing of it. */
    private static void needAllKinds(Map<String, Integer> answered) {
        for (String call : "net step back arrives returns best mean walk".split(" ")) {
            for (String kind : "none zero more".split(" ")) {
                // RETURNS counts from 1 on.
                boolean can = !(call.equals("returns") && kind.equals("zero"));
                due.is("enough of " + call + " " + kind, can && answered.getOrDefault(call + " " + kind, 0) < 20 ? 0 : 1, 1);
            }
        }
        for (String kind : "set false,set true,join false,join true,mark false,mark true,set throws,copy throws,mean throws".split(",")) {
            due.is("enough of " + kind, answered.getOrDefault(kind, 0) < 20 ? 0 : 1, 1);
        }
    }

    private void run() {
        int nets = 1 + random.nextInt(7);
        for (int i = 0; i < nets; i++) {
            makeNet();
        }
        int walks = 1 + random.nextInt(random.nextInt(5) == 0 ? 14 : 6);
        for (int i = 0; i < walks; i++) {
            call("walk", someNet());
        }
        while (calls < CALLS && due.wrong() == 0) {
            drawCall();
        }
    }

    private void makeNet() {
        int places = 1 + random.nextInt(random.nextBoolean() ? 4 : 12);
        int doors = 2 + random.nextInt(3);
        int net = model.nets.size();
        call("net", places, doors);
        if (net == model.nets.size()) {
            return;
        }
        int shape = random.nextInt(4);
        for (int p = 0; p < places && shape == 0; p++) {
            call("join", net, p, 0, (p + 1) % places, 1);
        }
        for (int p = 0; p + 1 < places && shape == 1; p += 2) {
            for (int d = 0; d < doors; d++) {
                call("join", net, p, d, p + 1, d);
            }
        }
        int joins = shape < 2 ? random.nextInt(2) : random.nextInt(2 * places + 1);
        for (int i = 0; i < joins; i++) {
            call("join", net, random.nextInt(places), random.nextInt(doors), random.nextInt(places), random.nextInt(doors));
        }
        int marks = random.nextInt(3);
        for (int i = 0; i < marks; i++) {
            call("mark", net, random.nextInt(places), random.nextInt(4) == 0 ? 0 : 1);
        }
        for (int p = -1; p < places; p++) {
            call("alike", net, p);
        }
    }

    private void drawCall() {
        int walk = random.nextInt(40) == 0 ? edge() : random.nextInt(model.walks.size());
        int net = walk >= 0 && walk < model.walks.size() ? model.walks.get(walk).net : 0;
        int place = somePlace(net);
        int door = someDoor(net);
        switch (random.nextInt(22)) {
            case 0: call("set", walk, place, door, someNumber()); break;
            case 1: call("set", walk, place, door, random.nextInt(3) - 1); break;
            case 2: call("spread", walk, random.nextInt(3) > 0 ? 0 : someNumber()); break;
            case 3: call("step", walk, random.nextInt(4)); break;
            case 4: call("step", walk, someSteps()); break;
            case 5: call("back", walk, random.nextInt(4)); break;
            case 6: call("back", walk, someSteps()); break;
            case 7: call("at", walk, place, door); break;
            case 8: call("share", walk, random.nextInt(4) == 0 ? -1 : place); break;
            case 9: call("of", walk, random.nextInt(30) == 0 ? edge() : random.nextInt(3)); break;
            case 10: case 11: call("arrives", walk, place, someSteps()); break;
            case 12: call("returns", walk, someSteps()); break;
            case 13: call("best", walk, someSteps()); break;
            case 14: call("mean", walk, place, someSteps()); break;
            case 15: call("mean", walk, place, random.nextInt(6)); break;
            case 16: call("copy", walk, random.nextInt(30) == 0 ? edge() : random.nextInt(model.walks.size())); break;
            case 17: call("count", random.nextInt(10) == 0 ? edge() : random.nextInt(2)); break;
            case 18: freshStart(walk, place, door); break;
            default: drawNetCall(); break;
        }
    }

    /** One number alone has far to go: most answers other than NONE come from here. */
    private void freshStart(int walk, int place, int door) {
        call("spread", walk, 0);
        call("set", walk, place, door, 1 + random.nextInt(2));
        call("returns", walk, 60);
        call("best", walk, 60);
        call("step", walk, someSteps());
    }

    private void drawNetCall() {
        int net = someNet();
        int place = somePlace(net);
        switch (random.nextInt(6)) {
            case 0: call("join", net, place, someDoor(net), somePlace(net), someDoor(net)); break;
            case 1: call("mark", net, place, random.nextInt(2)); break;
            case 2: call("leads", net, place, someDoor(net)); break;
            case 3: call("alike", net, random.nextInt(4) == 0 ? -1 : place); break;
            case 4: call("walk", random.nextInt(3) == 0 ? net : edge()); break;
            default: call("net", random.nextInt(15) - 1, random.nextInt(7) - 1); break;
        }
    }

    private int edge() {
        return EDGES[random.nextInt(EDGES.length)];
    }

    private int someNet() {
        return random.nextInt(40) == 0 && !model.walks.isEmpty() ? edge() : random.nextInt(model.nets.size());
    }

    private int somePlace(int net) {
        boolean any = net < 0 || net >= model.nets.size() || random.nextInt(40) == 0;
        return any ? edge() : random.nextInt(model.nets.get(net).places);
    }

    private int someDoor(int net) {
        boolean any = net < 0 || net >= model.nets.size() || random.nextInt(40) == 0;
        return any ? edge() : random.nextInt(model.nets.get(net).doors);
    }

    private int someNumber() {
        return random.nextInt(20) == 0 ? edge() : random.nextInt(201) - 100;
    }

    private int someSteps() {
        return random.nextInt(20) == 0 ? edge() : random.nextInt(random.nextBoolean() ? 61 : 20);
    }

    private void call(String name, int... a) {
        if (calls >= CALLS) {
            return;
        }
        calls++;
        String want = model.answer(name, a);
        String got = Asked.answer(tried, name, a);
        told.append(name).append(Arrays.toString(a)).append(" = ").append(want).append('\n');
        answered.merge(name + " " + kindOf(want), 1, Integer::sum);
        due.is("an answer", got.equals(want) ? 1 : 0, 1);
        if (!got.equals(want)) {
            System.out.println(told + "but answered " + got);
        }
    }

    private static String kindOf(String answer) {
        if (answer.endsWith("Exception")) {
            return "throws";
        }
        boolean word = answer.equals("true") || answer.equals("false") || answer.equals("void");
        return word ? answer : answer.equals("-1") ? "none" : answer.equals("0") ? "zero" : "more";
    }
}
