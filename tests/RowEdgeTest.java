/** The sentences of the document that name a boundary case: POSES, THE WAY, VILLAGES, SHEETS; ring, undo, counts. */
final class RowEdgeTest extends Edge {
    private static final String LOCK_OF_7 = "u0u2u1u4u3o2";

    public static void main(String[] args) {
        newObject();
        ring();
        undo();
        asks();
        poses();
        stand();
        alike();
        way();
        theFirstOfSeveral();
        spent();
        wayAt();
        villages();
        dances();
        shared();
        perform();
        sheets();
        lay();
        scan();
        count();
        close("RowEdgeTest");
    }

    private static void newObject() {
        says("THE RING of 5; no FIGURES, POSES, VILLAGES; SHEETS have nothing");
        BladeRing x = new BladeRing();
        seated("new", x, "01234");
        for (int i = 0; i < 8; i++) {
            due("no FIGURE", x.told(i, 0), BAD);
            due("no FIGURE", x.dance(i), BAD);
            due("no POSE", x.alike(i), BAD);
            due("no POSE", x.stand(i), BAD);
            due("no VILLAGE", x.danceOf(i, 0), BAD);
            due("no VILLAGE", x.perform(i), BAD);
        }
        for (int k = 0; k < 4; k++) {
            due("nothing", x.lay(k, 0, 0), -11);
            due("nothing", x.scan(k, 0, 0, 0), -11);
        }
        due("an empty TAPE", x.end(0), 0);
        due("no ACT to undo", x.undo(), NONE);
        due("no FAULT", x.fault(), 0);
        due("nothing stopped", x.why(), 0);
    }

    private static void ring() {
        says("as at first (no POSES, no ACTS to undo; FIGURES, VILLAGES stay)");
        for (int n = 4; n <= 8; n++) {
            BladeRing x = after(8, "u0t1d2r3");
            figure(x, 0, "t0k0");
            x.village();
            x.add(0, 0);
            x.dance(0);
            Check.figure(x, "x");
            Check.put(x, "u1.");
            x.sheet(0, 1, 9);
            for (int k = 0; k < 6; k++) {
                x.keep();
            }
            due("ring", x.ring(n), 1);
            seated("as at first", x, first(n));
            due("no CROSSINGS", x.about(1), 0);
            due("all IN", x.about(7), n);
            due("all HELD", x.about(8), n);
            due("no POSES", x.count(1), 0);
            for (int k = 0; k < 6; k++) {
                due("no POSE", x.stand(k), BAD);
                due("no POSE", x.way(k), BAD);
            }
            due("the first POSE again", x.keep(), 0);
            due("no ACTS to undo", x.about(9), 0);
            due("no ACTS to undo", x.undo(), NONE);
            due("FIGURES stay", x.told(0, 0), 2);
            due("VILLAGES stay", x.danceOf(0, 10), 0);
            due("THE TAPE stays", x.count(3), 3);
            due("SHEETS stay", x.count(4), 9);
            due("why() stays", x.why(), STATE);
            due("fault() stays", x.fault(), 1);
            due("THE TAPE stays", x.figure(), 1);
        }
    }

    private static void undo() {
        says("The latest ACT that can be undone is: how many more can be. NONE");
        BladeRing x = new BladeRing();
        due("none", x.undo(), NONE);
        due("none again", x.undo(), NONE);
        due("refused", x.act(TAKE, 0), STATE);
        due("a refused one is none", x.undo(), NONE);
        acts(x, "u0");
        due("refused", x.act(UNDER, 0), CAUGHT);
        due("one", x.undo(), 0);
        seated("undone", x, "01234");
        due("none", x.undo(), NONE);
        String[] acts = {"u2", "o2", "t2", "r2", "d2", "k1"};
        for (String act : acts) {
            BladeRing y = after(6, act.equals("k1") ? "d1u4t3" : "o0u4t3");
            y.keep();
            acts(y, act);
            due("another one by " + act, y.alike(0) < 2 ? 1 : 0, 1);
            due("undo of " + act, y.undo(), 3);
            due("the same by undo of " + act, y.alike(0), 2);
        }
    }

    private static void asks() {
        says("Of a PLACE: 0 the DANCER, 1 whether they face IN (1, 0). BAD");
        BladeRing x = after(6, "r1t0");
        due("DANCER 5 on PLACE 0", x.place(0, 0), 5);
        due("faces OUT", x.place(0, 1), 0);
        due("the last PLACE", x.place(5, 0), 4);
        due("faces IN", x.place(5, 1), 1);
        for (int bad : outside(0, 5)) {
            due("place(" + bad + ", 0)", x.place(bad, 0), BAD);
            due("place(" + bad + ", 1)", x.place(bad, 1), BAD);
            due("blade(" + bad + ", 0)", x.blade(bad, 0), BAD);
            due("blade(" + bad + ", 4)", x.blade(bad, 4), BAD);
            due("over(" + bad + ", 1)", x.over(bad, 1), BAD);
            due("over(1, " + bad + ")", x.over(1, bad), BAD);
            due("over(" + bad + ", " + bad + ")", x.over(bad, bad), BAD);
        }
        for (int what : outside(0, 1)) {
            due("place(0, " + what + ")", x.place(0, what), BAD);
            due("can(" + what + ")", x.can(what), BAD);
        }
        for (int what : outside(0, 4)) {
            due("blade(0, " + what + ")", x.blade(0, what), BAD);
            due("count(" + what + ")", x.count(what), BAD);
        }
        for (int what : outside(0, 9)) {
            due("about(" + what + ")", x.about(what), BAD);
        }
        says("BAD: also one and the same; NONE: they do not CROSS");
        for (int i = 0; i < 6; i++) {
            due("one and the same", x.over(i, i), BAD);
            for (int j = 0; j < 6; j++) {
                due("they do not CROSS", x.over(i, j), i == j ? BAD : NONE);
            }
        }
        says("Which ACTS UNDER (sort 0), OVER (1) can be done now: the sum of 2 to each PLACE");
        for (int n = 4; n <= 8; n++) {
            due("all", ringOf(n).can(0), (1 << n) - 1);
            due("all", ringOf(n).can(1), (1 << n) - 1);
            BladeRing y = after(n, "u" + (n - 1));
            for (int p = 0; p < n; p++) {
                due("UNDER " + p, y.can(0) >> p & 1, tried(n, "u" + (n - 1), UNDER, p));
                due("OVER " + p, y.can(1) >> p & 1, tried(n, "u" + (n - 1), OVER, p));
            }
            due("no PLACE n", y.can(0) >> n, 0);
        }
        for (int p = 0; p < 7; p++) {
            due("UNDER " + p + " in a LOCK", after(7, LOCK_OF_7).can(0) >> p & 1, tried(7, LOCK_OF_7, UNDER, p));
            due("OVER " + p + " in a LOCK", after(7, LOCK_OF_7).can(1) >> p & 1, tried(7, LOCK_OF_7, OVER, p));
        }
    }

    private static int tried(int n, String before, int sort, int p) {
        return after(n, before).act(sort, p) == 1 ? 1 : 0;
    }

    // ---- POSES

    private static void poses() {
        says("POSES (6): THE RING as it is when one is kept; A POSE is kept: its number. FULL");
        BladeRing x = ringOf(6);
        for (int k = 0; k < 6; k++) {
            due("POSES", x.count(1), k);
            due("no POSE " + k, x.alike(k), BAD);
            due("keep", x.keep(), k);
            due("the same", x.alike(k), 2);
            acts(x, "t" + k);
        }
        due("the seventh", x.keep(), FULL);
        due("POSES", x.count(1), 6);
        due("no POSE 6", x.alike(6), BAD);
        for (int k = 0; k < 6; k++) {
            due("stand", x.stand(k), 1);
            due("who faces IN", x.about(7), 6 - k);
            due("still FULL", x.keep(), FULL);
        }
        x.ring(6);
        due("room again", x.keep(), 0);
    }

    private static void stand() {
        says("THE RING becomes as in a POSE: 1 (no ACTS can be undone then). BAD");
        BladeRing x = after(7, "u0t2d4r2");
        String seats = seats(x);
        due("keep", x.keep(), 0);
        due("ACTS can be undone by keep still", x.about(9), 4);
        acts(x, "u1k4t0");
        for (int bad : outside(0, 0)) {
            due("stand(" + bad + ")", x.stand(bad), BAD);
            due("ACTS can be undone", x.about(9), 7);
        }
        due("stand", x.stand(0), 1);
        seated("PLACES", x, seats);
        due("facings", x.place(4, 1), 0);
        due("facings", x.about(7), 6);
        due("HELD", x.blade(4, 0), 0);
        due("OVER", x.over(1, 6), 1);
        due("no ACTS", x.about(9), 0);
        due("no ACTS", x.undo(), NONE);
        acts(x, "t0");
        due("the one behind it can", x.undo(), 0);
        due("stand where one stands", x.stand(0), 1);
        due("no ACTS", x.undo(), NONE);
    }

    private static void alike() {
        says("ALIKE: the same but for which ways DANCERS face, and for a ROUND");
        for (int n = 4; n <= 8; n++) {
            for (int d = 0; d <= 7; d++) {
                BladeRing x = after(n, "u1d0");
                x.keep();
                acts(x, "r" + d);
                due("gone " + d + " of " + n, x.alike(0), d % n == 0 ? 2 : 1);
                acts(x, "t" + d % n);
                due("and turned", x.alike(0), 1);
                acts(x, "t" + d % n);
                due("and turned again", x.alike(0), d % n == 0 ? 2 : 1);
            }
        }
        says("Whether THE RING now is ALIKE with a POSE (1, 0), the same (2)");
        for (String other : new String[] {"u3", "o3", "d3", "d1", "o0"}) {
            BladeRing x = after(6, "u0");
            x.keep();
            acts(x, other);
            due("another one by " + other, x.alike(0), 0);
        }
        BladeRing x = after(6, "u0");
        x.keep();
        acts(x, "o0o0");
        due("OVER alone is another one", x.alike(0), 0);
        x.stand(0);
        acts(x, "d3");
        due("HELD alone is another one", x.alike(0), 0);
        BladeRing y = loose(6, "012345");
        y.keep();
        acts(y, "o2");
        due("PLACES alone are other ones", y.alike(0), 0);
        BladeRing z = loose(4, "0123");
        z.keep();
        acts(z, "o1o0o2");
        due("not gone round", z.alike(0), 0);
        acts(z, "o1");
        seated("gone round by OVER alone", z, "2301");
        due("like by a ROUND of 2", z.alike(0), 1);
    }

    // ---- THE WAY

    /** POSE 0 is the ring as at first, POSE 1 what the goal's ACTS make of it; it stands where the start's do. */
    private static BladeRing wayOn(int n, String goal, String start) {
        BladeRing x = ringOf(n);
        x.keep();
        acts(x, goal);
        x.keep();
        x.stand(0);
        acts(x, start);
        return x;
    }

    private static void wayIs(int n, String goal, String start, String way, int metThen) {
        BladeRing x = wayOn(n, goal, start);
        String name = n + " from " + start + " to " + goal;
        int length = way.length() / 2;
        due("way on " + name, x.way(1), length);
        due("met on " + name, x.met(1), metThen);
        for (int i = 0; i < length; i++) {
            int act = 2 * (way.charAt(2 * i + 1) - '0') + (way.charAt(2 * i) == 'o' ? 1 : 0);
            due("wayAt " + i + " on " + name, x.wayAt(1, i), act);
        }
        due("wayAt behind the last on " + name, x.wayAt(1, length), NONE);
        due("wayAt far behind on " + name, x.wayAt(1, HIGH), NONE);
        acts(x, way);
        due("is there on " + name, x.alike(1) >= 1 ? 1 : 0, 1);
        due("way then", x.way(1), 0);
        due("met then", x.met(1), 1);
        due("wayAt then", x.wayAt(1, 0), NONE);
    }

    private static void way() {
        says("the fewest ACTS UNDER, OVER (no others)");
        for (int n = 4; n <= 8; n++) {
            wayIs(n, "", "", "", 1);
            wayIs(n, "", "r3", "", 1);
            wayIs(n, "t0t2r1", "t1r2", "", 1);
            for (int p = 0; p < n; p++) {
                // THE RING is met first, then UNDER 0, OVER 0, UNDER 1, ..
                wayIs(n, "u" + p, "", "u" + p, 2 * p + 2);
                wayIs(n, "o" + p, "", "o" + p, 2 * p + 3);
            }
        }
        says("to a POSE that is ALIKE");
        wayIs(6, "u2t0r1t3", "", "u2", 6);
        wayIs(6, "u2", "r1", "u3", 8);
        wayIs(6, "u5", "r1t2", "u0", 2);
        wayIs(6, "u4", "r2", "u0", 2);
        says("NONE: all that can be met were, none is it");
        BladeRing x = ringOf(6);
        x.keep();
        acts(x, "d0");
        due("another BLADE HELD", x.way(0), NONE);
        due("all were met", x.met(0), 844);
        due("wayAt", x.wayAt(0, 0), NONE);
        due("wayAt", x.wayAt(0, HIGH), NONE);
        acts(x, "k0");
        due("HELD again", x.way(0), 0);
        BladeRing y = loose(4, "0123");
        acts(y, "k0k1");
        y.keep();
        acts(y, "d0");
        due("another BLADE HELD on 4", y.way(0), NONE);
        due("all seats of 4 but for a ROUND", y.met(0), 6);
    }

    private static void theFirstOfSeveral() {
        says("of several the one whose ACTS (UNDER 0, OVER 0, UNDER 1, ..) come first");
        wayIs(6, "o2u0", "", "u0o2", 16);
        BladeRing x = loose(6, "012345");
        x.keep();
        acts(x, "o3");
        x.keep();
        x.stand(0);
        due("UNDER comes ahead of OVER", x.wayAt(1, 0), 6);
        acts(x, "o1o3");
        x.keep();
        x.stand(0);
        due("two ACTS", x.way(2), 2);
        due("UNDER 1 first", x.wayAt(2, 0), 2);
        due("UNDER 3 then", x.wayAt(2, 1), 6);
        BladeRing y = loose(4, "0123");
        y.keep();
        acts(y, "o2o0");
        y.keep();
        y.stand(0);
        due("two ACTS", y.way(1), 2);
        due("UNDER 0 first", y.wayAt(1, 0), 0);
    }

    private static void spent() {
        says("SPENT, when 1500 are met and none is it");
        // The last two and the first two about the bound, on 7 and 8: found by a search without a bound.
        wayIs(7, "u4u3o5o6", "", "u4u3o5o6", 1499);
        wayIs(7, "u4u3u6u0", "", "u4u3u6u0", 1500);
        wayIs(8, "u1o3u6u5", "", "u1o3u6u5", 1499);
        wayIs(8, "u1o3u6u7", "", "u1o3u6u7", 1500);
        int[] rings = {7, 7, 8, 8};
        String[] goals = {"u4u3u6u5", "u4u3u6o5", "u1o3o6o5", "u1o3o6o7"};
        for (int i = 0; i < goals.length; i++) {
            BladeRing x = wayOn(rings[i], goals[i], "");
            due("the 1501st, 1502nd: way", x.way(1), SPENT);
            due("met", x.met(1), 1500);
            due("wayAt 0", x.wayAt(1, 0), SPENT);
            due("wayAt far", x.wayAt(1, HIGH), SPENT);
            due("wayAt below 0", x.wayAt(1, -1), BAD);
            due("nothing is spent of POSE 0", x.way(0), 0);
            acts(x, goals[i].substring(0, 2));
            due("an ACT nearer", x.way(1), 3);
        }
        says("all that can be met are fewer, or more, than 1500");
        BladeRing x = after(7, "d0d1d2d4");
        x.keep();
        acts(x, "k4");
        due("way", x.way(0), SPENT);
        due("met", x.met(0), 1500);
        BladeRing y = after(7, "d0d1");
        y.keep();
        acts(y, "d2d4");
        due("all met", y.way(0), NONE);
        due("all met", y.met(0), 1320);
        BladeRing z = ringOf(6);
        z.keep();
        acts(z, "d0");
        z.keep();
        z.stand(0);
        due("1546 can be met", z.way(1), SPENT);
        due("1500 were", z.met(1), 1500);
    }

    private static void wayAt() {
        says("ACT i of THE WAY .. BAD: also i below 0; NONE: it is not so long");
        BladeRing x = wayOn(5, "u0o2", "");
        for (int i : new int[] {LOW, SPENT, NONE, -1}) {
            due("wayAt(1, " + i + ")", x.wayAt(1, i), BAD);
            due("wayAt(0, " + i + ")", x.wayAt(0, i), BAD);
        }
        for (int bad : outside(0, 1)) {
            due("wayAt(" + bad + ", 0)", x.wayAt(bad, 0), BAD);
            due("way(" + bad + ")", x.way(bad), BAD);
            due("met(" + bad + ")", x.met(bad), BAD);
        }
        due("the last", x.wayAt(1, 1), 5);
        due("behind the last", x.wayAt(1, 2), NONE);
        due("of a WAY without ACTS", x.wayAt(0, 0), NONE);
        says("THE WAY from THE RING: as it is now");
        acts(x, "u0");
        due("one ACT less", x.way(1), 1);
        due("wayAt", x.wayAt(1, 0), 5);
        due("and back", x.way(0), 1);
        due("wayAt", x.wayAt(0, 0), 1);
        x.undo();
        due("wayAt, asked first", x.wayAt(1, 0), 0);
        due("as before", x.way(1), 2);
        says("How many were met in the search for THE WAY (THE RING too)");
        acts(x, "u0");
        due("met, asked first", x.met(0), 2);
        acts(x, "o0");
        due("met, asked first", x.met(0), 1);
        x.stand(1);
        due("there", x.way(1), 0);
    }

    // ---- VILLAGES

    private static void villages() {
        says("VILLAGES (4): A VILLAGE without FIGURES: its number. FULL");
        BladeRing x = new BladeRing();
        for (int v = 0; v < 4; v++) {
            due("no VILLAGE " + v, x.danceOf(v, 0), BAD);
            due("village", x.village(), v);
            due("no FIGURES", x.danceOf(v, 0), 0);
            due("no BEATS", x.danceOf(v, 1), 0);
            due("no FIGURE 0", x.danceOf(v, 10), BAD);
            due("VILLAGES", x.count(2), v + 1);
        }
        due("the fifth", x.village(), FULL);
        due("VILLAGES", x.count(2), 4);
        due("no VILLAGE 4", x.danceOf(4, 0), BAD);
    }

    private static void dances() {
        says("a DANCE: a row of FIGURES (16); how many it has. BAD; FULL");
        BladeRing x = new BladeRing();
        for (int f = 0; f < 8; f++) {
            figure(x, f, ".".repeat(f + 1));
        }
        for (int v = 0; v < 4; v++) {
            x.village();
            int beats = 0;
            for (int i = 0; i < 16; i++) {
                int f = (i * 3 + v) % 8;
                due("add " + i, x.add(v, f), i + 1);
                beats += f + 1;
            }
            due("the 17th", x.add(v, v), FULL);
            due("FIGURES", x.danceOf(v, 0), 16);
            due("BEATS", x.danceOf(v, 1), beats);
            due("the last", x.danceOf(v, 25), (45 + v) % 8);
            due("behind the last", x.danceOf(v, 26), BAD);
        }
        due("the first stays", x.danceOf(0, 10), 0);
        says("0 FIGURES, 1 BEATS; 10 and i: FIGURE i. BAD");
        for (int what : new int[] {LOW, -1, 2, 3, 9, 26, HIGH}) {
            due("danceOf(0, " + what + ")", x.danceOf(0, what), BAD);
        }
        for (int bad : outside(0, 3)) {
            due("danceOf(" + bad + ", 0)", x.danceOf(bad, 0), BAD);
            due("add(" + bad + ", 0)", x.add(bad, 0), BAD);
        }
        for (int bad : outside(0, 7)) {
            due("add(0, " + bad + ")", x.add(0, bad), BAD);
        }
        says("1 BEATS: all of the longest");
        BladeRing y = new BladeRing();
        figure(y, 0, "20(10(.))");
        y.village();
        for (int i = 0; i < 16; i++) {
            y.add(0, 0);
        }
        due("BEATS", y.danceOf(0, 1), 3200);
    }

    private static void sharedBy(String one, String other, String row) {
        BladeRing x = new BladeRing();
        for (int f = 0; f < 8; f++) {
            Check.figure(x, ".");
        }
        x.village();
        x.village();
        for (int i = 0; i < one.length(); i++) {
            x.add(0, one.charAt(i) - '0');
        }
        for (int i = 0; i < other.length(); i++) {
            x.add(1, other.charAt(i) - '0');
        }
        for (int v = 0; v < 2; v++) {
            String name = "shared by " + one + ", " + other + ": ";
            due(name + "how many", x.shared(v, 1 - v, NONE), row.length());
            for (int i = 0; i < row.length(); i++) {
                due(name + i, x.shared(v, 1 - v, i), row.charAt(i) - '0');
            }
            due(name + "behind the last", x.shared(v, 1 - v, row.length()), NONE);
            due(name + "far behind", x.shared(v, 1 - v, HIGH), NONE);
        }
        due("with itself", x.shared(0, 0, NONE), one.length());
    }

    private static void shared() {
        says("the longest row of FIGURES that is in both in order (others between)");
        sharedBy("", "", "");
        sharedBy("0", "", "");
        sharedBy("0", "1", "");
        sharedBy("7", "7", "7");
        sharedBy("01", "10", "0");
        sharedBy("0000000000000000", "0000000000000000", "0000000000000000");
        sharedBy("0000000000000000", "0", "0");
        sharedBy("0000000000000007", "7000000000000000", "000000000000000");
        sharedBy("0123456701234567", "1111111111111117", "117");
        sharedBy("7012345601234567", "7", "7");
        sharedBy("1020304050607010", "1234567", "1234567");
        says("of several the one whose FIGURES, one by one, are the least numbers");
        sharedBy("76543210", "01234567", "0");
        sharedBy("1203", "2130", "10");
        sharedBy("120340", "214300", "100");
        sharedBy("2110", "1201", "10");
        sharedBy("3120", "1302", "10");
        sharedBy("6071", "0617", "01");
        sharedBy("5041526", "4051625", "012");
        says("BAD: also i below 0, but for NONE");
        BladeRing x = new BladeRing();
        x.village();
        for (int i : new int[] {LOW, SPENT, CAUGHT, FULL, STATE, BAD}) {
            due("shared(0, 0, " + i + ")", x.shared(0, 0, i), BAD);
        }
        due("NONE", x.shared(0, 0, NONE), 0);
        due("0 of none", x.shared(0, 0, 0), NONE);
        for (int bad : outside(0, 0)) {
            due("shared(" + bad + ", 0, NONE)", x.shared(bad, 0, NONE), BAD);
            due("shared(0, " + bad + ", NONE)", x.shared(0, bad, NONE), BAD);
            due("shared(" + bad + ", 0, 0)", x.shared(bad, 0, 0), BAD);
        }
    }

    private static void perform() {
        says("A DANCE is DONE, FIGURE by FIGURE: how many; -100 less i: FIGURE i was refused");
        BladeRing x = ringOf(5);
        figure(x, 0, "t0");
        figure(x, 1, ".k0");
        figure(x, 2, "t5");
        x.village();
        due("none", x.perform(0), 0);
        for (int i = 1; i <= 15; i++) {
            x.add(0, 0);
            due("perform", x.perform(0), i);
        }
        x.add(0, 1);
        due("the last is refused", x.perform(0), -115);
        due("those ahead are done", x.about(7), 4);
        x.village();
        x.add(1, 2);
        x.add(1, 0);
        due("the first is refused", x.perform(1), -100);
        due("those behind are not done", x.about(7), 4);
        for (int bad : outside(0, 1)) {
            due("perform(" + bad + ")", x.perform(bad), BAD);
        }
    }

    // ---- SHEETS

    private static void sheets() {
        says("SHEETS 0 to 3 .. BYTES (lane 0), SHORTS (1), INTS (2) with 0 to 60 CELLS, or nothing (at first)");
        BladeRing x = new BladeRing();
        for (int k = 0; k < 4; k++) {
            due("nothing", x.lay(k, 0, 0), -11);
            for (int lane = 0; lane < 3; lane++) {
                for (int n : new int[] {0, 1, 59, 60}) {
                    due("sheet", x.sheet(k, lane, n), 1);
                    due("the CELL behind the last", x.lay(k, n, 0), -12);
                    due("the last CELL", x.lay(k, n - 1, 0), n == 0 ? -12 : 1);
                    due("of its lane", x.scan(k, lane, 0, 0), 0);
                    due("of no other lane", x.scan(k, (lane + 1) % 3, 0, 0), -13);
                }
                due("61 CELLS", x.sheet(k, lane, 61), BAD);
                due("below 0", x.sheet(k, lane, -1), -14);
                due("as it was", x.lay(k, 59, 0), 1);
            }
            for (int lane : outside(0, 2)) {
                due("lane " + lane, x.sheet(k, lane, 1), BAD);
            }
        }
        for (int k : outside(0, 3)) {
            due("sheet " + k, x.sheet(k, 0, 1), BAD);
        }
        due("n highest", x.sheet(0, 0, HIGH), BAD);
        due("n lowest", x.sheet(0, 0, LOW), -14);
        says("A SHEET is a new row of CELLS 0");
        for (int lane = 0; lane < 3; lane++) {
            BladeRing y = ringOf(8);
            y.sheet(0, 2, 60);
            for (int i = 0; i < 60; i++) {
                y.lay(0, i, -1);
            }
            due("full of -1", y.scan(0, 2, 0, 1), -21);
            due("a new row", y.sheet(0, lane, 60), 1);
            for (int i = 0; i < 59; i++) {
                y.ring(8);
                due("CELLS " + i + " are 0: UNDER 0", y.scan(0, lane, i, 1), 1);
                if (i % 29 == 0) {
                    seated("UNDER 0", y, "10234567");
                    due("it was UNDER", y.over(1, 7), 1);
                }
            }
        }
    }

    private static void lay() {
        says("CELL i of a SHEET becomes v (its lowest bits)");
        int[] bits = {8, 16, 32};
        for (int lane = 0; lane < 3; lane++) {
            for (int high = 0; high < 32; high++) {
                BladeRing x = ringOf(8);
                x.sheet(1, lane, 2);
                int v = 2 + (high < 3 ? 0 : 1 << high);
                due("lay", x.lay(1, 0, v), 1);
                due("lay", x.lay(1, 1, v), 1);
                boolean kept = high >= 3 && high < bits[lane];
                due("bit " + high + " of lane " + lane, x.scan(1, lane, 0, 1), kept ? -21 : 1);
                due("TURN 2", x.place(2, 1), kept ? 1 : 0);
            }
            BladeRing y = ringOf(8);
            y.sheet(1, lane, 2);
            y.lay(1, 0, 2);
            y.lay(1, 1, -8 & (1 << bits[lane] - 1) - 1 | -1 << bits[lane] - 1);
            due("below 0", y.scan(1, lane, 0, 1), -21);
            y.lay(1, 1, 7);
            due("laid over", y.scan(1, lane, 0, 1), 1);
        }
        says("-10 less the FAULT: NULL, INDEX");
        BladeRing x = new BladeRing();
        for (int k : outside(0, 3)) {
            due("lay(" + k + ", 0, 0)", x.lay(k, 0, 0), BAD);
        }
        for (int k = 0; k < 4; k++) {
            due("NULL ahead of INDEX", x.lay(k, -1, 0), -11);
            x.sheet(k, 0, 3);
            for (int i : outside(0, 2)) {
                due("INDEX " + i, x.lay(k, i, 0), -12);
            }
            due("the first", x.lay(k, 0, 0), 1);
            due("the last", x.lay(k, 2, 0), 1);
        }
    }

    private static void scan() {
        says("n (0 to 30) ACTS (sort, number) are read .. from CELL f on, and done one by one: how many");
        BladeRing x = ringOf(5);
        x.sheet(0, 0, 60);
        for (int i = 0; i < 60; i += 2) {
            x.lay(0, i, ROUND);
            x.lay(0, i + 1, 1);
        }
        int seat = 0;
        for (int n : new int[] {0, 1, 2, 29, 30}) {
            due("scan of " + n, x.scan(0, 0, 60 - 2 * n, n), n);
            seat += n;
            seated("ROUNDS", x, gone(first(5), seat));
        }
        for (int n : outside(0, 30)) {
            due("scan of " + n, x.scan(0, 0, 0, n), BAD);
        }
        for (int bad : outside(0, 3)) {
            due("scan(" + bad + ", 0, 0, 1)", x.scan(bad, 0, 0, 1), BAD);
        }
        for (int bad : outside(0, 2)) {
            due("scan(0, " + bad + ", 0, 1)", x.scan(0, bad, 0, 1), BAD);
        }
        seated("nothing more", x, gone(first(5), seat));
        says("from CELL f on: INDEX");
        x.ring(5);
        due("the last two CELLS", x.scan(0, 0, 58, 1), 1);
        for (int f : new int[] {LOW, LOW + 1, -60, -2, -1, 59, 60, 61, HIGH - 1, HIGH}) {
            due("from " + f, x.scan(0, 0, f, 1), -12);
            due("from " + f, x.scan(0, 0, f, 30), -12);
            due("none from " + f, x.scan(0, 0, f, 0), 0);
        }
        seated("one ROUND alone", x, gone(first(5), 1));
        due("29 and one that there is not", x.scan(0, 0, 2, 30), -12);
        seated("30 ROUNDS", x, gone(first(5), 30));
        due("a sort without a number", x.scan(0, 0, 57, 2), -12);
        scanFaults();
    }

    private static void scanFaults() {
        says("-10 less the FAULT: NULL, CAST, then ACT by ACT INDEX; -20 and what act() refuses; the first met");
        BladeRing x = ringOf(5);
        due("NULL ahead of CAST, INDEX", x.scan(1, 2, -1, 1), -11);
        due("NULL of none to do", x.scan(1, 0, 0, 0), -11);
        for (int lane = 0; lane < 3; lane++) {
            x.sheet(1, lane, 8);
            for (int as = 0; as < 3; as++) {
                due("CAST", x.scan(1, as, 0, 0), as == lane ? 0 : -13);
                due("CAST ahead of INDEX", x.scan(1, as, -1, 1), as == lane ? -12 : -13);
            }
        }
        int[] cells = {2, 4, 5, 0, 2, 3, 4, 9};
        for (int i = 0; i < cells.length; i++) {
            x.lay(1, i, cells[i]);
        }
        due("STATE is met first", x.scan(1, 2, 0, 30), -22);
        due("those ahead of it are done", x.about(7), 4);
        due("those behind are not", x.place(3, 1), 1);
        due("BAD is met first", x.scan(1, 2, 4, 30), -21);
        due("those ahead of it are done", x.about(7), 3);
        x.lay(1, 7, 1);
        due("INDEX is met first", x.scan(1, 2, 4, 30), -12);
        due("those ahead of it are done", x.about(8), 4);
        x.ring(5);
        x.sheet(1, 2, 4);
        due("CAUGHT", x.scan(1, 2, 0, 2), -25);
        due("the one ahead of it is done", x.about(1), 1);
        due("it can be undone", x.undo(), 0);
    }

    private static void count() {
        says("0 FIGURES, 1 POSES, 2 VILLAGES, 3 bytes on THE TAPE, 4 CELLS of SHEET 0 (NONE: nothing). BAD");
        BladeRing x = new BladeRing();
        int[] none = {0, 0, 0, 0, NONE};
        for (int what = 0; what < 5; what++) {
            due("count(" + what + ") at first", x.count(what), none[what]);
        }
        for (int what : outside(0, 4)) {
            due("count(" + what + ")", x.count(what), BAD);
        }
        x.sheet(1, 0, 7);
        due("another SHEET is not SHEET 0", x.count(4), NONE);
        x.sheet(0, 2, 0);
        due("no CELLS are not nothing", x.count(4), 0);
        x.sheet(0, 2, 60);
        due("all CELLS", x.count(4), 60);
    }
}
