/** Counts what is checked, and tells a station's text to an object. */
final class Check {
    private static final int PROMISES = 72;

    private final boolean[] spokenOf = new boolean[PROMISES + 1];
    private int right;
    private int wrong;
    private String part = "";

    void part(String name) {
        part = name;
    }

    /** A case of its own: what follows is of this promise and this boundary. */
    void about(int promise, String boundary) {
        spokenOf[promise] = true;
        part = "promise " + promise + ", " + boundary;
    }

    void everyPromiseHasACase() {
        part = "all";
        for (int promise = 1; promise <= PROMISES; promise++) {
            due("cases of promise " + promise, spokenOf[promise] ? 1 : 0, 1);
        }
    }

    void due(String call, long got, long want) {
        if (got == want) {
            right++;
        } else {
            wrong++;
            if (wrong <= 200) {
                System.out.println(part + ": " + call + " answered " + got + ", due is " + want);
            }
        }
    }

    int right() {
        return right;
    }

    int wrong() {
        return wrong;
    }

    void close() {
        System.out.println(right + " passed, " + wrong + " failed");
        if (wrong != 0) {
            System.exit(1);
        }
    }

    /** The text comes behind what the tape of x has; zero bytes that fill the last feed are cut off. */
    static void tell(IntervalSignal x, String text) {
        int had = x.count(10);
        for (int from = 0; from < text.length(); from += 20) {
            x.feed(four(text, from), four(text, from + 4), four(text, from + 8), four(text, from + 12), four(text, from + 16));
        }
        x.end(had + text.length());
    }

    static int four(String text, int from) {
        int number = 0;
        for (int i = from; i < from + 4; i++) {
            number = number << 8 | (i < text.length() ? text.charAt(i) & 255 : 0);
        }
        return number;
    }

    static IntervalSignal of(String text) {
        IntervalSignal x = new IntervalSignal();
        tell(x, text);
        x.station();
        return x;
    }

    /** A slot gets a row of four-byte numbers. */
    static void fill(IntervalSignal x, int slot, long... numbers) {
        x.row(slot, 2, numbers.length);
        for (int i = 0; i < numbers.length; i++) {
            x.write(slot, i, numbers[i]);
        }
    }
}
