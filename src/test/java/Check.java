/** Counts the calls whose answer is not the one that is due. */
final class Check {
    static final int NULL = -1000011, PLACE = -1000012, KIND = -1000013, SIZE = -1000014, STORE = -1000015;

    private int wrong = 0;
    private int asked = 0;

    void due(String call, long got, long want) {
        asked++;
        if (got != want) {
            wrong++;
            System.out.println(call + " answered " + got + ", due is " + want);
        }
    }

    /** Feeds a text and reads it: what house() answers. */
    static int read(BellowsWords x, String text) {
        for (int i = 0; i < text.length(); i++) {
            x.feed(text.charAt(i));
        }
        return x.house();
    }

    static BellowsWords housed(String text) {
        BellowsWords x = new BellowsWords();
        int answer = read(x, text);
        if (answer < 0) {
            throw new IllegalStateException("the test's own text is refused: " + text);
        }
        return x;
    }

    void end() {
        System.out.println(asked + " asked, " + wrong + " not as due");
        if (wrong != 0) {
            System.exit(1);
        }
    }
}
