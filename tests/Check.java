/** What the project's tests have in common: answers that are due, and texts put on THE TAPE. */
final class Check {
    private final String name;
    private int right;
    private int wrong;

    Check(String name) {
        this.name = name;
    }

    void due(String call, long got, long want) {
        if (got == want) {
            right++;
            return;
        }
        wrong++;
        System.out.println(name + ": " + call + " answered " + got + ", due is " + want);
    }

    int wrongs() {
        return wrong;
    }

    /** Closes a test's main: exit code 1, if an answer was not as due. */
    void close() {
        System.out.println(name + ": " + right + " answers as due, " + wrong + " not");
        if (wrong != 0) {
            System.exit(1);
        }
    }

    /** The longs that bring a text to THE TAPE, eight bytes each, blanks behind. */
    static long[] feeds(String text) {
        long[] feeds = new long[(text.length() + 7) / 8];
        for (int i = 0; i < 8 * feeds.length; i++) {
            int sign = i < text.length() ? text.charAt(i) & 255 : ' ';
            feeds[i / 8] = feeds[i / 8] << 8 | sign;
        }
        return feeds;
    }

    /** Puts a text on the empty TAPE, no byte more. */
    static void put(BladeRing x, String text) {
        for (long v : feeds(text)) {
            x.feed(v);
        }
        x.end(text.length());
    }

    static int figure(BladeRing x, String text) {
        put(x, text);
        return x.figure();
    }
}
