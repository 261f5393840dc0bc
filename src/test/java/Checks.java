/** What the tests of the project share: answers that are due, and texts that are typed. */
final class Checks {
    private int asked = 0;
    private int wrong = 0;
    private int sentences = 0;
    private String sentence = "";

    /** What is asked from here on is asked because of that sentence of the document. */
    void about(String sentence) {
        this.sentence = sentence + " | ";
        sentences++;
    }

    void due(String call, long got, long want) {
        asked++;
        if (got != want) {
            wrong++;
            System.out.println(sentence + call + " answered " + got + ", due is " + want);
        }
    }

    void holds(String what, boolean is) {
        due(what, is ? 1 : 0, 1);
    }

    void end() {
        System.out.println((sentences > 0 ? sentences + " sentences, " : "") + asked + " asked, " + wrong + " wrong");
        if (wrong != 0) {
            System.exit(1);
        }
    }

    static void type(PetalWheels x, String text) {
        for (int i = 0; i < text.length(); i++) {
            x.type(text.charAt(i));
        }
    }

    /** A new object that has read that text. */
    static PetalWheels told(String text) {
        PetalWheels x = new PetalWheels();
        type(x, text);
        if (x.box() < 0) {
            throw new IllegalStateException("a text that can't be read: " + text);
        }
        return x;
    }
}
