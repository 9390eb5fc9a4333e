import java.io.IOException;
import java.util.Arrays;
import java.util.HashSet;
import java.util.List;
import java.util.Set;

/**
 * Each sentence of the document that names a boundary case has a test of its own in one of the classes
 * below; and each sentence of the document is either among those or among WITHOUT_EDGE.
 */
public final class EdgeTest {
    /** What names no boundary case: headings, and sentences that say no more than another one with a test. */
    private static final String[] WITHOUT_EDGE = {
        "What it is | A crane campaign in a wind farm: turbines with blade faults that worsen, a crane that moves over "
            + "bogs with mats, windows of wind by height, blades that are unloaded in a harbour by weight, power that "
            + "is lost hour by hour and claimed by its causes, plans and what would be with others, winds as texts, "
            + "and undo.",
        "Turbines | Roads, bogs, the crane",
        "An hour | In an hour, these things happen:",
        "An hour | Otherwise it serves the target:",
        "Exceptions | Ahead of the calls addTurbine, setFault, setBog, set the interface says: ---- the farm.",
        "Exceptions | Ahead of the calls plan, unplan, orderBlade, pass the interface says: ---- plan and blades.",
        "Exceptions | Ahead of the calls append, clearBuffer, firstError, load, undo the interface says: ---- texts.",
        "Exceptions | Ahead of the calls turbine, blade, bog, claims, count, setting the interface says: ---- what "
            + "there is.",
        "Promise 5 | Changes a setting.",
        "Promise 5 | value: the new value",
        "Promise 8 | Orders a blade.",
        "Promise 9 | Lets hours pass.",
        "Promise 10 | Appends a character to the buffer.",
        "Promise 12 | Finds the first syntax error of the buffer.",
        "Promise 15 | Returns a property of a turbine.",
        "Promise 15 | Returns the property.",
        "Promise 16 | Returns the property.",
        "Promise 17 | Returns a property of a bog.",
        "Promise 17 | Returns the property.",
        "Promise 18 | Returns the claims by a cause.",
        "Promise 19 | Returns a number.",
        "Promise 19 | Returns the number.",
        "Promise 20 | Returns a setting.",
        "Promise 20 | Returns its value.",
        "Promise 21 | Tells how many hours the crane would need from one place to another one.",
        "Promise 22 | Returns the number.",
        "Promise 23 | Finds the turbine that should be served first.",
        "Promise 24 | Finds the next window of wind for a turbine.",
        "Promise 25 | Tells after how many hours the plan is empty.",
        "Promise 26 | Returns the mean wind.",
        "Promise 27 | Returns the share of power that was lost.",
        "Promise 28 | Computes a hash of the whole state.",
        "Promise 28 | Returns the hash.",
        "Not promised | How the state is held inside the object is free, as are the speed of each call, the text of "
            + "toString and the behaviour of equals and hashCode.",
        "Not promised | Use of one object from several threads at once is not promised to be safe.",
        "Not promised | Nothing is promised beyond the answers and state changes described above, and nothing about an "
            + "object after its 512th call.",
    };

    public static void main(String[] args) throws IOException {
        TermEdges.run();
        HourEdges.run();
        PowerEdges.run();
        TextEdges.run();
        UndoEdges.run();
        ChangeEdges.run();
        PlanEdges.run();
        ReadEdges.run();
        QuestionEdges.run();
        checkSentences();
        Check.finish();
    }

    private static void checkSentences() throws IOException {
        if (!Document.isHere()) {
            System.out.println("../shared/DOC.md is not here: its sentences are not compared with the tests");
            return;
        }
        List<String> sentences = Document.sentences();
        Set<String> without = new HashSet<>(Arrays.asList(WITHOUT_EDGE));
        for (String sentence : sentences) {
            boolean isTested = Edge.told().contains(sentence);
            Check.dueTrue("a test of the sentence: " + sentence, isTested || without.contains(sentence));
            Check.dueTrue("one list alone with the sentence: " + sentence, !isTested || !without.contains(sentence));
        }
        without.addAll(Edge.told());
        for (String told : without) {
            Check.dueTrue("the document's sentence: " + told, sentences.contains(told));
        }
    }
}
