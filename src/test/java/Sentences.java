/** The tests of one part of the document: for each sentence there, one for each boundary case that it names. */
final class Sentences {
    /** What is asked of the program about one case. */
    interface Test {
        void ask(Answers answers);
    }

    private final String part;
    private String sentence;
    private int count;
    private int broken;

    /** The part is a promise with its number, or a heading of the document. */
    Sentences(String part) {
        this.part = part;
    }

    /** The tests that follow are of this sentence, told in the document's own words. */
    void sentence(String words) {
        sentence = words;
        System.out.println(part + ": \"" + words + "\"");
    }

    /** Asks about one case of the sentence. */
    void test(String boundary, Test test) {
        String name = part + ": \"" + sentence + "\" - " + boundary;
        count++;
        if (isBroken(name, test)) {
            broken++;
            System.out.println("BROKEN  " + name);
        } else {
            System.out.println("    holds: " + boundary);
        }
    }

    // One test that throws must not hide what the others have to tell.
    private static boolean isBroken(String name, Test test) {
        Answers answers = new Answers(name);
        try {
            test.ask(answers);
        } catch (RuntimeException e) {
            System.out.println(name + ": thrown " + e);
            return true;
        }
        return answers.isBroken();
    }

    void close() {
        System.out.println(part + ": " + count + " cases, " + broken + " broken");
        if (broken != 0 || count == 0) {
            System.exit(1);
        }
    }
}
