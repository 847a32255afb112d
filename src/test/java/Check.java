/** What the tests share: counts answers that are not as due, and types texts onto a page. */
final class Check {
    private int asked = 0;
    private int wrong = 0;

    void due(String what, long got, long want) {
        asked++;
        if (got != want) {
            wrong++;
            System.out.println(what + " answered " + got + ", due is " + want);
        }
    }

    int wrong() {
        return wrong;
    }

    /** Ends with exit code 1, if any answer was wrong. */
    void end() {
        System.out.println(asked + " answers looked at, " + wrong + " not as due");
        if (wrong != 0 || asked == 0) {
            System.exit(1);
        }
    }

    static void type(CloseClocks x, String text) {
        for (int i = 0; i < text.length(); i++) {
            x.letter(text.charAt(i));
        }
    }

    /** A new object that has read a net. */
    static CloseClocks withNet(String text) {
        CloseClocks x = new CloseClocks();
        type(x, text);
        x.net();
        return x;
    }
}
