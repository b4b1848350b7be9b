import java.util.List;
import java.util.Map;
import java.util.Set;
import java.util.TreeSet;

/** Tests by the sentences of the document: each of these has one of its own, and each test quotes one of them. */
final class Sentences {
    private final Map<String, List<String>> doc = Doc.sentences();
    private final Set<String> met = new TreeSet<>();
    private String section = "";

    /** What is told next stands in this section. */
    void section(String name) {
        section = name;
    }

    void says(String sentence, Runnable test) {
        meet(sentence);
        Check.about(section + ": " + sentence + " ");
        int before = Check.made();
        try {
            test.run();
        } catch (RuntimeException e) {
            Check.due("its test throws " + e, false, true);
        }
        Check.due("its test looks at something", Check.made() > before, true);
        Check.about("");
    }

    /** A sentence that asks nothing of the class, or a heading. */
    void asksNothing(String sentence) {
        meet(sentence);
    }

    private void meet(String sentence) {
        boolean stands = doc.getOrDefault(section, List.of()).contains(sentence);
        Check.due(section + ": " + sentence + " stands in the document", stands, true);
        Check.due(section + ": " + sentence + " is tested once", met.add(section + ": " + sentence), true);
    }

    void eachIsMet() {
        for (Map.Entry<String, List<String>> part : doc.entrySet()) {
            for (String sentence : part.getValue()) {
                String named = part.getKey() + ": " + sentence;
                Check.due(named + " has a test", met.contains(named), true);
            }
        }
    }
}
