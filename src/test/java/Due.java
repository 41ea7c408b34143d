/** Counts answers that are due and prints every call whose answer is another. */
final class Due {
    private final String test;
    private int right;
    private int wrong;

    Due(String test) {
        this.test = test;
    }

    void is(String call, long got, long want) {
        if (got == want) {
            right++;
        } else {
            wrong++;
            System.out.println(test + ": " + call + " answered " + got + ", due is " + want);
        }
    }

    boolean isRight() {
        return wrong == 0;
    }

    void end() {
        System.out.println(test + ": " + right + " answers as due, " + wrong + " not");
        if (wrong != 0 || right == 0) {
            System.exit(1);
        }
    }

    static void feedAll(TwoWhistlesAndFiveEwes x, String text) {
        for (int i = 0; i < text.length(); i++) {
            x.feed(text.charAt(i));
        }
    }

    /** What hill answers to this text, THE TAPE being empty ahead. */
    static int hill(TwoWhistlesAndFiveEwes x, String text) {
        feedAll(x, text);
        return x.hill();
    }

    static void fill(TwoWhistlesAndFiveEwes x, int s, int sort, long... elements) {
        x.row(s, sort, elements.length);
        for (int i = 0; i < elements.length; i++) {
            x.set(s, i, elements[i]);
        }
    }
}
