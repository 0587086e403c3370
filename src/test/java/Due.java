/** Counts the answers that are not as due, and ends a test. */
final class Due {
    private int wrong = 0;
    private int asked = 0;

    void due(String call, long got, long want) {
        asked++;
        if (got != want) {
            wrong++;
            System.out.println(call + " answered " + got + ", due is " + want);
        }
    }

    void holds(String what, boolean so) {
        due(what, so ? 1 : 0, 1);
    }

    void end() {
        System.out.println(wrong == 0 ? asked + " answers are as due" : wrong + " answers are not as due");
        if (wrong != 0) {
            System.exit(1);
        }
    }

    /** Puts a whole text where the old one was. */
    static TruthOver typed(TruthOver x, String text) {
        x.clear();
        for (int i = 0; i < text.length(); i++) {
            x.type(text.charAt(i));
        }
        return x;
    }

    static int read(TruthOver x, String text) {
        return typed(x, text).read();
    }

    /** A new object that has read this text. */
    static TruthOver of(String text) {
        TruthOver x = new TruthOver();
        int items = read(x, text);
        if (items < 0) {
            System.out.println("the test's own text \"" + text + "\" was not read: " + items);
            System.exit(1);
        }
        return x;
    }
}
