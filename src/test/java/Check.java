/** Counts and prints the answers of a test that are not as due. */
final class Check {
    private int wrong;
    private int asked;
    private String about = "";

    /** Says which promise or rule the next answers belong to. */
    void about(String words) {
        about = words;
    }

    void due(String call, long got, long want) {
        asked++;
        if (got != want) {
            wrong++;
            System.out.println(about + ": " + call + " answered " + got + ", due is " + want);
        }
    }

    void due(String call, boolean got, boolean want) {
        due(call, got ? 1 : 0, want ? 1 : 0);
    }

    void holds(String what, boolean so) {
        due(what, so, true);
    }

    void finish() {
        System.out.println(asked + " answers, " + wrong + " not as due");
        if (wrong != 0) {
            System.exit(1);
        }
    }

    /** Types the text on an empty line and reads it. */
    static int read(ConeForms desk, String text) {
        desk.wipe();
        for (int i = 0; i < text.length(); i++) {
            desk.type(text.charAt(i));
        }
        return desk.read();
    }

    /** A new object that has read the texts one after the other. */
    static ConeForms deskOf(String... texts) {
        ConeForms desk = new ConeForms();
        for (String text : texts) {
            if (read(desk, text) < 0) {
                throw new IllegalArgumentException("the test's own line is refused: " + text);
            }
        }
        return desk;
    }
}
