import java.util.function.Consumer;

/** Runs one test for each sentence of the document, and tells those that do not hold. */
final class Sentences {
    private String section = "";
    private int broken;

    /** The sentences that follow are of this section. */
    void of(String newSection) {
        section = newSection;
    }

    void holds(String sentence, Consumer<Due> test) {
        Due due = new Due();
        due.is("the test", Due.thrownBy(() -> test.accept(due)), "nothing");
        if (!due.allWell()) {
            broken++;
            System.out.println("does not hold: " + section + ": " + sentence);
        }
    }

    void end() {
        if (broken != 0) {
            System.out.println(broken + " sentences do not hold");
            System.exit(1);
        }
    }
}
