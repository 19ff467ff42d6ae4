import java.io.IOException;
import java.util.BitSet;
import java.util.List;

/**
 * A test for each sentence of the document that names a boundary: the number of the promise, the sentence's words, and
 * steps for a new object (see Script). Each is run on DawnCoin and on Model; and once more without its questions and
 * its refused calls, behind which all must stand alike, as these change nothing.
 */
final class Edges {
    private static final int CALLS = 512;

    private final Due due = new Due("EdgesTest");
    private final Doc doc;
    private final BitSet promises = new BitSet();
    private int edges;

    Edges() throws IOException {
        doc = new Doc();
    }

    void edge(int promise, String words, String... told) {
        edges++;
        promises.set(promise);
        String label = "promise " + promise + ", '" + words + "'";
        if (doc.isThere()) {
            due.holds(label + " stands in the document", doc.quote(promise, words));
        }
        List<Script.Step> steps = Script.steps(told);
        DawnCoin coin = new DawnCoin();
        Script script = new Script(coin);
        script.run(steps, due, label);
        due.holds(label + " has " + CALLS + " calls at most", script.calls() <= CALLS);
        new Script(new Model()).run(steps, due, label + ", the model");
        changesAlone(coin, script.calls(), steps, label);
    }

    private void changesAlone(DawnCoin coin, int calls, List<Script.Step> steps, String label) {
        DawnCoin twin = new DawnCoin();
        new Script(twin).run(steps.stream().filter(Script.Step::changes).toList(), new Due("twin"), label);
        List<Long> all = new Look(coin, CALLS - calls).all();
        List<Long> alone = new Look(twin, CALLS - calls).all();
        due.holds(label + ": questions and refusals change nothing: " + all + " " + alone, all.equals(alone));
    }

    int wrong() {
        return due.wrong();
    }

    void end() {
        for (int i = 1; i <= 31; i++) {
            due.holds("promise " + i + " has a test of its boundaries", promises.get(i));
        }
        for (String left : doc.leftOut()) {
            due.holds("no test of a boundary quotes " + left, false);
        }
        System.out.println("EdgesTest: " + edges + " boundaries" + (doc.isThere() ? "" : ", not compared with DOC.md"));
        due.end();
    }
}
