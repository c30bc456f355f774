/** What the tests share: answers that are due, texts fed sign by sign, and how a test ends. */
final class Check {
    private final String name;
    private String about = "";
    private int asked = 0;
    private int wrong = 0;

    Check(String name) {
        this.name = name;
    }

    /** What all is about that is asked from here on; it is told with an answer that is not as due. */
    void about(String what) {
        about = " [" + what + "]";
    }

    void due(String what, long got, long want) {
        asked++;
        if (got != want) {
            wrong++;
            System.out.println(name + about + ": " + what + " answered " + got + ", due is " + want);
        }
    }

    void holds(String what, boolean is) {
        due(what, is ? 1 : 0, 1);
    }

    int wrong() {
        return wrong;
    }

    /** Ends the program with exit code 1 if an answer was wrong. */
    void end() {
        System.out.println(name + ": " + asked + " answers, " + wrong + " not as due");
        if (wrong != 0 || asked == 0) {
            System.exit(1);
        }
    }

    static void feed(CoinTelescope x, String text) {
        for (int i = 0; i < text.length(); i++) {
            x.feed(text.charAt(i));
        }
    }

    /** Feeds a text and reads it as a view. */
    static int view(CoinTelescope x, String text) {
        feed(x, text);
        return x.view();
    }

    static CoinTelescope withView(String text) {
        CoinTelescope x = new CoinTelescope();
        int number = view(x, text);
        if (number != 0) {
            throw new IllegalStateException("the test's own view " + text + " answered " + number);
        }
        return x;
    }
}
