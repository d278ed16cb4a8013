import java.io.IOException;
import java.nio.file.Files;
import java.nio.file.Path;

/** The document's boundary cases, sentence by sentence: each has a test of its own; -Ddoc names the document. */
public final class BoundaryTest {
    private static final Due due = new Due();

    public static void main(String[] args) throws IOException {
        Sentences s = new Sentences(due);
        NetEdges nets = new NetEdges(due);
        WaveEdges waves = new WaveEdges(due);
        AskEdges asks = new AskEdges(due);
        s.section("What it is");
        s.hold("An object is used for at most 512 calls after it has been made; what later calls answer is free.",
            BoundaryTest::the512thCall);
        s.section("Terms");
        nets.terms(s);
        waves.terms(s);
        asks.terms(s);
        nets.promises(s);
        waves.promises(s);
        asks.promises(s);
        Path document = Path.of(System.getProperty("doc", "../shared/DOC.md"));
        if (Files.isReadable(document)) {
            s.compareWith(document);
        } else {
            System.out.println("There is no " + document + ": the sentences were not compared with it.");
        }
        System.out.println(s.count() + " sentences or parts of such have a test");
        due.end();
    }

    private static void the512thCall() {
        WaveWalk x = Made.goingToAndFro(2);
        // Five calls made it.
        for (int call = 6; call <= 511; call += 2) {
            due.is("call " + call, x.step(0, 1), 1);
            due.is("call " + (call + 1), x.back(0, 1), 0);
        }
        due.is("call 512", x.at(0, 0, 0), 1);
    }
}
