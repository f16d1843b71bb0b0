/**
 * What the tests of boundary cases have in common. Each of them names the sentence of the document that it is
 * for: just inside and just outside each bound, the empty and the full, what wraps around. That what is
 * refused changes nothing is asked in RefusedTest.
 */
class Edge {
    static final int BAD = -1, STATE = -2, FULL = -3, NONE = -4, CAUGHT = -5, SPENT = -6;
    static final int LOW = Integer.MIN_VALUE, HIGH = Integer.MAX_VALUE;
    static final int UNDER = 0, OVER = 1, TURN = 2, ROUND = 3, DROP = 4, TAKE = 5;
    private static final Check C = new Check("edges");

    private static String sentence;

    static void close(String name) {
        System.out.print(name + ", ");
        C.close();
    }

    static void says(String words) {
        sentence = words;
    }

    static void due(String call, long got, long want) {
        C.due("\"" + sentence + "\": " + call, got, want);
    }

    static BladeRing ringOf(int n) {
        BladeRing x = new BladeRing();
        x.ring(n);
        return x;
    }

    /** ACTS told like a FIGURE's text without rounds, done by act(): each is to be done. */
    static void acts(BladeRing x, String text) {
        for (int i = 0; i + 1 < text.length(); i += 2) {
            int sort = "uotrdk".indexOf(text.charAt(i));
            due("act " + text.substring(i, i + 2) + " of " + text, x.act(sort, text.charAt(i + 1) - '0'), 1);
        }
    }

    static BladeRing after(int n, String text) {
        BladeRing x = ringOf(n);
        acts(x, text);
        return x;
    }

    static String seats(BladeRing x) {
        StringBuilder row = new StringBuilder();
        for (int p = 0; p < x.about(0); p++) {
            row.append(x.place(p, 0));
        }
        return row.toString();
    }

    static void seated(String call, BladeRing x, String dancers) {
        String found = seats(x);
        due(call + ", found " + found, found.equals(dancers) ? 1 : 0, 1);
    }

    /** The seats of a ring of n as at first. */
    static String first(int n) {
        return "01234567".substring(0, n);
    }

    /** The seats gone d PLACES on. */
    static String gone(String seats, int d) {
        int cut = Math.floorMod(-d, seats.length());
        return seats.substring(cut) + seats.substring(0, cut);
    }

    /** A ring with all BLADES DROPPED and the DANCERS seated as told. */
    static BladeRing loose(int n, String dancers) {
        BladeRing x = ringOf(n);
        for (int i = 0; i < n; i++) {
            x.act(DROP, i);
        }
        for (int p = 0; p < n; p++) {
            for (int q = seats(x).indexOf(dancers.charAt(p)); q > p; q--) {
                x.act(OVER, q - 1);
            }
        }
        seated("loose", x, dancers);
        return x;
    }

    /** Tells FIGURE f, the next: its text is right. */
    static void figure(BladeRing x, int f, String text) {
        due("figure \"" + text + "\"", Check.figure(x, text), f);
    }

    /** The numbers just below and just above, and the farthest. */
    static int[] outside(int least, int most) {
        return new int[] {LOW, least - 1, most + 1, HIGH};
    }
}
