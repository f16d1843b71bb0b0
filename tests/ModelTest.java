/** Long runs of calls, told by a fixed row of numbers, on the program and on the Model: all answers agree. */
final class ModelTest {
    private static final int RUNS = 700, CALLS = 512;
    private static final String[] NAMES = {"ring", "act", "undo", "place", "blade", "over", "about", "can", "feed",
        "end", "figure", "fault", "told", "dance", "why", "back", "order", "mirrors", "keep", "stand", "alike",
        "way", "wayAt", "met", "village", "add", "danceOf", "shared", "perform", "sheet", "lay", "scan", "count"};
    // How often each call comes, by the sort of run: the ring, figures, ways, villages, sheets.
    private static final String[] WEIGHTS = {
        "190223222111111111001100000000001",
        "120000111089129496441000000000001",
        "150000110022020401229953000000000",
        "110000001033020410000000596950001",
        "120000101000000000000000000003992"};

    private final Check check = new Check("ModelTest");
    private long seed;
    private BladeRing x;
    private Model m;
    private final StringBuilder trace = new StringBuilder();

    public static void main(String[] args) {
        ModelTest test = new ModelTest();
        for (int run = 0; run < RUNS && test.check.wrongs() == 0; run++) {
            test.run(run);
        }
        test.check.close();
    }

    private int below(int bound) {
        seed = seed * 6364136223846793005L + 1442695040888963407L;
        return (int) ((seed >>> 33) % bound);
    }

    /** Mostly a number below the bound, now and then one at or beyond its edges. */
    private int about(int bound) {
        int[] edges = {-1, bound, bound + 1, -4, Integer.MIN_VALUE, Integer.MAX_VALUE};
        return below(24) == 0 ? edges[below(edges.length)] : below(Math.max(bound, 1));
    }

    private void due(String call, long got, long want) {
        trace.append("  ").append(call).append(" -> ").append(want).append('\n');
        check.due(call, got, want);
    }

    private void run(int run) {
        seed = run * 7919L + 17;
        x = new BladeRing();
        m = new Model();
        trace.setLength(0);
        String weights = WEIGHTS[run % WEIGHTS.length];
        int total = 0;
        for (int i = 0; i < weights.length(); i++) {
            total += weights.charAt(i) - '0';
        }
        if (run / WEIGHTS.length % 2 == 0) {
            int n = 4 + below(5);
            due("ring(" + n + ")", x.ring(n), m.ring(n));
        }
        int calls = 1;
        while (calls < CALLS && check.wrongs() == 0) {
            int pick = below(total);
            int name = 0;
            while (pick >= weights.charAt(name) - '0') {
                pick -= weights.charAt(name) - '0';
                name++;
            }
            calls += call(NAMES[name], CALLS - calls);
        }
        if (check.wrongs() != 0) {
            System.out.println("run " + run + ":\n" + trace);
        }
    }

    /** One call, or a few that belong together: how many there were. */
    private int call(String name, int left) {
        switch (name) {
            case "feed": case "figure": return text(left);
            case "sheet": return book(left);
            case "wayAt": return wholeWay(left);
            default: break;
        }
        int n = m.now.n;
        int a = firstArgument(name, n);
        int b = secondArgument(name, n);
        String call = name + "(" + a + ", " + b + ")";
        switch (name) {
            case "ring": due(call, x.ring(a), m.ring(a)); break;
            case "act": due(call, x.act(a, b), m.act(a, b)); break;
            case "undo": due(call, x.undo(), m.undo()); break;
            case "place": due(call, x.place(a, b), m.place(a, b)); break;
            case "blade": due(call, x.blade(a, b), m.blade(a, b)); break;
            case "over": due(call, x.over(a, b), m.over(a, b)); break;
            case "about": due(call, x.about(a), m.about(a)); break;
            case "can": due(call, x.can(a), m.can(a)); break;
            case "end": due(call, x.end(a), m.end(a)); break;
            case "fault": due(call, x.fault(), m.fault()); break;
            case "told": due(call, x.told(a, b), m.told(a, b)); break;
            case "dance": due(call, x.dance(a), m.dance(a)); break;
            case "why": due(call, x.why(), m.why()); break;
            case "back": due(call, x.back(a), m.back(a)); break;
            case "order": due(call, x.order(a), m.order(a)); break;
            case "mirrors": due(call, x.mirrors(a), m.mirrors(a)); break;
            case "keep": due(call, x.keep(), m.keep()); break;
            case "stand": due(call, x.stand(a), m.stand(a)); break;
            case "alike": due(call, x.alike(a), m.alike(a)); break;
            case "way": due(call, x.way(a), m.way(a)); break;
            case "met": due(call, x.met(a), m.met(a)); break;
            case "village": due(call, x.village(), m.village()); break;
            case "add": due(call, x.add(a, b), m.add(a, b)); break;
            case "danceOf": due(call, x.danceOf(a, b), m.danceOf(a, b)); break;
            case "perform": due(call, x.perform(a), m.perform(a)); break;
            case "count": due(call, x.count(a), m.count(a)); break;
            default: return threeArguments(name, a);
        }
        return 1;
    }

    private int threeArguments(String name, int a) {
        int b = about(name.equals("lay") ? 60 : 4);
        if (name.equals("shared")) {
            int i = below(3) == 0 ? -4 : about(8);
            due("shared(" + a + ", " + b + ", " + i + ")", x.shared(a, b, i), m.shared(a, b, i));
        } else if (name.equals("lay")) {
            int v = about(9) + (below(5) == 0 ? 256 << 8 * below(3) : 0);
            due("lay(" + a + ", " + b + ", " + v + ")", x.lay(a, b, v), m.lay(a, b, v));
        } else {
            int lane = below(8) != 0 && a >= 0 && a < 4 ? m.lanes[a] : about(3);
            int f = about(40);
            int n = below(3) == 0 ? about(31) : about(4);
            due("scan(" + a + ", " + lane + ", " + f + ", " + n + ")", x.scan(a, lane, f, n), m.scan(a, lane, f, n));
        }
        return 1;
    }

    private int firstArgument(String name, int n) {
        switch (name) {
            case "ring": return below(9) != 0 ? n : 3 + about(7);
            case "act": return below(3) == 0 ? about(6) : below(2);
            case "place": case "blade": case "over": return about(n);
            case "about": return about(10);
            case "can": return about(2);
            case "end": return about(m.tape.length() + 1);
            case "told": case "dance": case "back": case "order": case "mirrors":
                return about(Math.max(1, m.figures.size()));
            case "stand": case "alike": case "way": case "met": return about(Math.max(1, m.poses.size()));
            case "count": return about(5);
            case "lay": case "scan": return about(4);
            default: return about(Math.max(1, m.villages.size()));
        }
    }

    private int secondArgument(String name, int n) {
        switch (name) {
            case "act": return below(3) == 0 ? about(8) : about(n);
            case "place": return about(2);
            case "blade": return about(5);
            case "over": return about(n);
            case "told": return below(3) == 0 ? about(4) : (below(2) == 0 ? 10 : 300) + about(12);
            case "add": return about(Math.max(1, m.figures.size()));
            case "danceOf": return below(2) == 0 ? about(2) : 10 + about(17);
            default: return 0;
        }
    }

    // ---- texts

    private String item(int depth) {
        int pick = below(12);
        String blank = below(5) == 0 ? " " : "";
        if (pick < 2 && depth < 5) {
            StringBuilder row = new StringBuilder();
            row.append(1 + below(below(6) == 0 ? 21 : 3)).append(blank).append('(');
            for (int i = below(3); i >= 0; i--) {
                row.append(item(depth + 1));
            }
            return row.append(')').append(blank).toString();
        }
        if (pick == 2) {
            return "." + blank;
        }
        if (pick == 3 && !m.figures.isEmpty()) {
            return "f" + blank + about(m.figures.size());
        }
        String letters = "uouououottrrddkk";
        int bound = below(20) == 0 ? 12 : below(9) == 0 ? 8 : m.now.n;
        return letters.charAt(below(letters.length())) + blank + below(bound);
    }

    private String garbled(String text) {
        String signs = "uotrdkf()().0123456789 1200x\u00ff\u0000";
        int at = below(text.length() + 1);
        String sign = String.valueOf(signs.charAt(below(signs.length())));
        int cut = below(3) == 0 ? 0 : Math.min(1, text.length() - at);
        return text.substring(0, at) + (below(3) == 0 ? "" : sign) + text.substring(at + cut);
    }

    private int text(int left) {
        StringBuilder row = new StringBuilder();
        for (int i = below(below(3) == 0 ? 12 : 4); i >= 0; i--) {
            row.append(item(0));
        }
        String text = row.toString();
        text = below(3) == 0 ? garbled(text) : text;
        int calls = 0;
        for (long v : Check.feeds(text)) {
            if (calls < left - 1) {
                due("feed(" + v + "L)", x.feed(v), m.feed(v));
                calls++;
            }
        }
        int end = m.tape.length() - (8 - text.length() % 8) % 8;
        if (calls < left - 1 && below(10) != 0) {
            due("end(" + end + ")", x.end(end), m.end(end));
            calls++;
        }
        if (calls < left - 1) {
            due("figure() of \"" + text + "\"", x.figure(), m.figure());
            due("fault()", x.fault(), m.fault());
            calls += 2;
        }
        return calls;
    }

    // ---- sheets, ways

    private int book(int left) {
        int k = about(4);
        int lane = about(3);
        int n = about(61);
        due("sheet(" + k + ", " + lane + ", " + n + ")", x.sheet(k, lane, n), m.sheet(k, lane, n));
        int calls = 1;
        for (int i = 0; i < 24 && calls < left; i++) {
            int v = i % 2 == 0 ? below(6) : below(m.now.n);
            v += below(30) == 0 ? 256 << 8 * below(3) : 0;
            due("lay(" + k + ", " + i + ", " + v + ")", x.lay(k, i, v), m.lay(k, i, v));
            calls++;
        }
        return calls;
    }

    private int wholeWay(int left) {
        int k = about(Math.max(1, m.poses.size()));
        int calls = 0;
        for (int i = -1; i < 6 && calls < left; i++) {
            due("wayAt(" + k + ", " + i + ")", x.wayAt(k, i), m.wayAt(k, i));
            calls++;
        }
        return calls;
    }
}
