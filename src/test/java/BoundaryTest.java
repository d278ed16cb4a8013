import java.io.IOException;
import java.nio.file.Files;
import java.nio.file.Path;

/** The document's boundary cases, sentence by sentence: each has a test of its own; -Ddoc names the document. */
public final class BoundaryTest {
    private static final Due due = new Due();

    public static void main(String[] args) throws IOException {
        Sentences s = new Sentences(due);
        NetEdges nets = new NetEdges(due);
        WaveEdges waves = new WaveEdges(due);
        AskEdges asks = new AskEdges(due);
        s.section("What it is");
        s.hold("Walkers that are waves, on nets whose places have doors that lead to doors: each step turns what lies at a place's "
            + "doors into one another by a told table, signs changed at marked places, and goes through the doors;",
            BoundaryTest::twoStepsByHand);
        s.hold("all in whole numbers, so that shares are exact, steps are undone exactly;", BoundaryTest::exactToTheLastStep);
        s.hold("when all has come to a place, when it is as at the beginning, which step finds the marked places best, means over "
            + "steps, and which places are alike.", BoundaryTest::allThatIsAsked);
        s.hold("An object is used for at most 512 calls after it has been made; what later calls answer is free.",
            BoundaryTest::the512thCall);
        s.section("Terms");
        nets.terms(s);
        waves.terms(s);
        asks.terms(s);
        nets.promises(s);
        waves.promises(s);
        asks.promises(s);
        Path document = Path.of(System.getProperty("doc", "../shared/DOC.md"));
        if (Files.isReadable(document)) {
            s.compareWith(document);
        } else {
            System.out.println("There is no " + document + ": the sentences were not compared with it.");
        }
        System.out.println(s.count() + " sentences or parts of such have a test");
        due.end();
    }

    /** A marked place in the midst of two others: doors 1 and 2 of place 0 lead to places 1 and 2, all else to itself. */
    private static WaveWalk markedBetween() {
        WaveWalk x = new WaveWalk();
        x.net(3, 3);
        x.join(0, 0, 1, 1, 0);
        x.join(0, 0, 2, 2, 2);
        x.mark(0, 0, true);
        x.walk(0);
        x.set(0, 0, 0, 1);
        return x;
    }

    private static void numbersAre(WaveWalk x, int doors, long... want) {
        for (int i = 0; i < want.length; i++) {
            due.is("the number at place " + i / doors + ", door " + i % doors, x.at(0, i / doors, i % doors), want[i]);
        }
    }

    private static void twoStepsByHand() {
        WaveWalk x = markedBetween();
        numbersAre(x, 3, 1, 0, 0, 0, 0, 0, 0, 0, 0);
        x.step(0, 1);
        numbersAre(x, 3, 1, 0, 0, -2, 0, 0, 0, 0, -2);
        x.step(0, 1);
        numbersAre(x, 3, 1, 2, 2, -2, -4, -4, -4, -4, -2);
    }

    private static void exactToTheLastStep() {
        WaveWalk x = markedBetween();
        long weight = 1;
        for (int time = 1; time <= 19; time++) {
            due.is("time", x.step(0, 1), time);
            weight *= 9;
            due.is("all shares at time " + time, x.share(0, 0) + x.share(0, 1) + x.share(0, 2), weight);
        }
        due.is("no further", x.step(0, 1), WaveWalk.NONE);
        due.is("undone", x.back(0, 17), 2);
        numbersAre(x, 3, 1, 2, 2, -2, -4, -4, -4, -4, -2);
        due.is("all undone", x.back(0, 2), 0);
        numbersAre(x, 3, 1, 0, 0, 0, 0, 0, 0, 0, 0);
    }

    private static void allThatIsAsked() {
        WaveWalk x = markedBetween();
        due.is("ARRIVES where it is", x.arrives(0, 0, 60), 0);
        due.is("ARRIVES elsewhere", x.arrives(0, 1, 60), WaveWalk.NONE);
        due.is("BEST", x.best(0, 60), 0);
        due.is("MEAN: 81 and 9 times 1 and 9", x.mean(0, 0, 2), 99);
        due.is("MEAN of the next place: 9 times 4 and 36", x.mean(0, 1, 2), 72);
        due.is("CLASSES", x.alike(0, WaveWalk.NONE), 2);
        due.is("the marked place", x.alike(0, 0), 0);
        due.is("those at its sides", x.alike(0, 1) * 10 + x.alike(0, 2), 11);
        x.step(0, 1);
        due.is("BEST of two like shares, 1 of 9 and 9 of 81", x.best(0, 1), 0);
        due.is("RETURNS", Made.goingToAndFro(4).returns(0, 60), 2);
    }

    private static void the512thCall() {
        WaveWalk x = Made.goingToAndFro(2);
        // Five calls made it.
        for (int call = 6; call <= 511; call += 2) {
            due.is("call " + call, x.step(0, 1), 1);
            due.is("call " + (call + 1), x.back(0, 1), 0);
        }
        due.is("call 512", x.at(0, 0, 0), 1);
    }
}
