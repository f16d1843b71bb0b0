/** Each promise by its number: ordinary inputs, the edges that the document names, wrong inputs. */
final class PromiseTest {
    private static final int BAD = -1, STATE = -2, FULL = -3, NONE = -4, CAUGHT = -5, SPENT = -6;
    private static final int LOW = Integer.MIN_VALUE, HIGH = Integer.MAX_VALUE;
    private static final Check C = new Check("PromiseTest");

    public static void main(String[] args) {
        constants();
        p01NewObject();
        p02Ring();
        p03Act();
        p03Caught();
        p03DropTake();
        p04Undo();
        p05Place();
        p06Blade();
        p07Over();
        p08About();
        p08Turns();
        p08LockStar();
        p09Can();
        p10Feed();
        p11End();
        p12Figure();
        p13Fault();
        p13FaultPlaces();
        p14Told();
        p15Dance();
        p16Why();
        p17Back();
        p18Order();
        p19Mirrors();
        p20Keep();
        p21Stand();
        p22Alike();
        p23Way();
        p24WayAt();
        p25Met();
        p26Village();
        p27Add();
        p28DanceOf();
        p29Shared();
        p30Perform();
        p31Sheet();
        p32Lay();
        p33Scan();
        p34Count();
        C.close();
    }

    private static void due(String call, long got, long want) {
        C.due(call, got, want);
    }

    private static BladeRing ringOf(int n) {
        BladeRing x = new BladeRing();
        x.ring(n);
        return x;
    }

    /** ACTS told like a FIGURE's text without rounds, done by act(): the last answer. */
    private static int acts(BladeRing x, String text) {
        int answer = 0;
        for (int i = 0; i + 1 < text.length(); i += 2) {
            answer = x.act("uotrdk".indexOf(text.charAt(i)), text.charAt(i + 1) - '0');
        }
        return answer;
    }

    private static void seats(String call, BladeRing x, String dancers) {
        for (int p = 0; p < dancers.length(); p++) {
            due(call + " place " + p, x.place(p, 0), dancers.charAt(p) - '0');
        }
    }

    private static void constants() {
        due("BAD", BladeRing.BAD, -1);
        due("STATE", BladeRing.STATE, -2);
        due("FULL", BladeRing.FULL, -3);
        due("NONE", BladeRing.NONE, -4);
        due("CAUGHT", BladeRing.CAUGHT, -5);
        due("SPENT", BladeRing.SPENT, -6);
    }

    private static void p01NewObject() {
        BladeRing x = new BladeRing();
        due("new about(0)", x.about(0), 5);
        seats("new", x, "01234");
        for (int p = 0; p < 5; p++) {
            due("new facing", x.place(p, 1), 1);
            due("new held", x.blade(p, 0), 1);
        }
        due("new about(1)", x.about(1), 0);
        due("new about(9)", x.about(9), 0);
        for (int what = 0; what <= 3; what++) {
            due("new count " + what, x.count(what), 0);
        }
        due("new count(4)", x.count(4), NONE);
        for (int k = 0; k < 4; k++) {
            due("new sheet " + k, x.lay(k, 0, 0), -11);
        }
        due("new told", x.told(0, 0), BAD);
        due("new alike", x.alike(0), BAD);
        due("new danceOf", x.danceOf(0, 0), BAD);
        due("new fault", x.fault(), 0);
        due("new why", x.why(), 0);
    }

    private static void p02Ring() {
        BladeRing x = new BladeRing();
        for (int n : new int[] {LOW, -1, 0, 3, 9, HIGH}) {
            due("ring(" + n + ")", x.ring(n), BAD);
        }
        due("ring refused: stays", x.about(0), 5);
        for (int n = 4; n <= 8; n++) {
            due("ring(" + n + ")", x.ring(n), 1);
            due("about(0)", x.about(0), n);
            seats("ring", x, "01234567".substring(0, n));
            due("about(7)", x.about(7), n);
            due("about(8)", x.about(8), n);
            acts(x, "u0t1d2r3");
        }
        Check.figure(x, "u0.");
        x.village();
        x.add(0, 0);
        x.keep();
        Check.put(x, "abc");
        x.sheet(0, 0, 7);
        due("undoable", x.about(9), 4);
        due("ring(3) with all", x.ring(3), BAD);
        due("undoable still", x.about(9), 4);
        due("pose still", x.count(1), 1);
        due("ring(6)", x.ring(6), 1);
        due("as at first, dropped no more", x.about(8), 6);
        due("as at first, crossings", x.about(1), 0);
        due("as at first, facings", x.about(7), 6);
        due("nothing to undo", x.undo(), NONE);
        due("no poses", x.count(1), 0);
        due("figures stay", x.count(0), 1);
        due("villages stay", x.danceOf(0, 0), 1);
        due("tape stays", x.count(3), 3);
        due("sheets stay", x.count(4), 7);
    }

    private static void p03Act() {
        BladeRing x = ringOf(5);
        for (int sort : new int[] {LOW, -1, 6, 7, HIGH}) {
            due("act(" + sort + ", 0)", x.act(sort, 0), BAD);
        }
        for (int sort = 0; sort < 6; sort++) {
            due("act number below 0", x.act(sort, -1), BAD);
            due("act number lowest", x.act(sort, LOW), BAD);
            due("act number highest", x.act(sort, HIGH), BAD);
            due("act number n", x.act(sort, 5), sort == 3 ? 1 : BAD);
            due("act number 8", x.act(sort, 8), BAD);
        }
        seats("ROUND 5 of 5", x, "01234");
        due("only ROUND was done", x.about(9), 1);
        due("ROUND 7 of 5", x.act(3, 7), 1);
        seats("ROUND 7 of 5", x, "34012");
        due("ROUND 0", x.act(3, 0), 1);
        seats("ROUND 0", x, "34012");
        due("UNDER behind n - 1 comes 0", x.act(0, 4), 1);
        seats("UNDER 4", x, "24013");
        due("TURN 0", x.act(2, 0), 1);
        due("facing of DANCER 2", x.place(0, 1), 0);
        due("TURN is of the DANCER", x.act(3, 1), 1);
        due("facing goes with the DANCER", x.place(1, 1), 0);
        due("facing of the other", x.place(0, 1), 1);
        due("TURN again", x.act(2, 1), 1);
        due("about(7)", x.about(7), 5);
        for (int n = 4; n <= 8; n++) {
            BladeRing y = ringOf(n);
            due("last PLACE", y.act(1, n - 1), 1);
            due("last BLADE", y.act(4, n - 1), 1);
            due("PLACE that is not", y.act(1, n), BAD);
            due("BLADE that is not", y.act(4, n), BAD);
            due("BLADE that is not", y.act(5, n), BAD);
            due("ROUND 7", y.act(3, 7), 1);
        }
    }

    private static void p03Caught() {
        BladeRing x = ringOf(5);
        due("UNDER 0", x.act(0, 0), 1);
        due("1 lies OVER 4", x.over(1, 4), 1);
        due("UNDER 0: 1 lies OVER 4, CAUGHT", x.act(0, 0), CAUGHT);
        due("CAUGHT changes nothing", x.over(1, 4), 1);
        seats("CAUGHT", x, "10234");
        due("CAUGHT is not done", x.about(9), 1);
        due("OVER 0 frees", x.act(1, 0), 1);
        due("free", x.over(1, 4), NONE);
        due("OVER 0", x.act(1, 0), 1);
        due("4 lies OVER 1", x.over(4, 1), 1);
        due("OVER 0: CAUGHT", x.act(1, 0), CAUGHT);
        due("UNDER 0 frees", x.act(0, 0), 1);
        due("free", x.about(1), 0);
        BladeRing y = ringOf(5);
        acts(y, "o1");
        due("0 OVER 2, UNDER 2: 2 of a crossed", y.act(0, 2), CAUGHT);
        due("nothing half done", y.about(1), 1);
        due("nothing half done", y.over(2, 4), NONE);
        BladeRing z = ringOf(5);
        acts(z, "u0d4");
        due("a DROPPED BLADE catches none", z.act(0, 0), 1);
        due("nor does it cross", z.about(1), 0);
    }

    private static void p03DropTake() {
        BladeRing x = ringOf(6);
        acts(x, "u0u2");
        due("CROSSINGS", x.about(1), 2);
        due("TAKE of a HELD one", x.act(5, 1), STATE);
        due("DROP 1", x.act(4, 1), 1);
        due("DROP 1 again", x.act(4, 1), STATE);
        due("HELD BLADES", x.about(8), 5);
        due("none CROSSES it", x.about(1), 0);
        due("TAKE 1, DANCERS apart", x.act(5, 1), STATE);
        due("STATE changes nothing", x.about(8), 5);
        acts(x, "d0");
        due("TAKE 0, DANCERS beside, turned", x.act(5, 0), 1);
        due("TAKEN CROSSES none", x.blade(0, 3), 0);
        acts(x, "d5r1");
        due("TAKE 5: PLACES 0 and 2", x.act(5, 5), STATE);
        BladeRing y = ringOf(6);
        acts(y, "d5");
        due("TAKE 5: PLACES 5 and 0", y.act(5, 5), 1);
        acts(y, "d0r5");
        due("TAKE 0: PLACES 5 and 0 after ROUND", y.act(5, 0), 1);
        BladeRing z = ringOf(4);
        acts(z, "d0o1");
        due("TAKE 0 of 4: PLACES 0 and 2", z.act(5, 0), STATE);
    }

    private static void p04Undo() {
        BladeRing x = new BladeRing();
        due("undo, nothing done", x.undo(), NONE);
        acts(x, "u0t0r2d3");
        due("undo DROP", x.undo(), 3);
        due("HELD again", x.blade(3, 0), 1);
        due("undo ROUND", x.undo(), 2);
        seats("undo ROUND", x, "10234");
        due("undo TURN", x.undo(), 1);
        due("faces IN", x.about(7), 5);
        due("undo UNDER", x.undo(), 0);
        seats("undo UNDER", x, "01234");
        due("no crossing", x.about(1), 0);
        due("undo, nothing left", x.undo(), NONE);
        BladeRing y = ringOf(6);
        acts(y, "u0o2d1");
        due("undo DROP", y.undo(), 2);
        due("undo gives who lies OVER whom", y.about(1), 2);
        due("1 OVER 5", y.over(1, 5), 1);
        due("1 OVER 3", y.over(1, 3), 1);
        BladeRing z = ringOf(7);
        for (int i = 0; i < 14; i++) {
            z.act(3, 1);
            due("undoable", z.about(9), Math.min(i + 1, 12));
        }
        seats("ROUND 14 times", z, "0123456");
        due("a refused one", z.act(0, 9), BAD);
        due("and one that is CAUGHT", acts(z, "u0u0"), CAUGHT);
        for (int i = 11; i >= 0; i--) {
            due("undo", z.undo(), i);
        }
        due("undo: the latest 12", z.undo(), NONE);
        seats("11 ROUNDS and UNDER undone", z, "4560123");
        acts(z, "r1");
        due("again", z.undo(), 0);
        BladeRing w = ringOf(5);
        Check.figure(w, "u0.t1r2");
        w.dance(0);
        due("a BEAT of nothing is no ACT", w.about(9), 3);
        w.back(0);
        due("BACK can be undone", w.about(9), 6);
        due("undo of BACK", w.undo(), 5);
        due("undo of BACK", w.undo(), 4);
        due("undo of BACK", w.undo(), 3);
        seats("as it was DONE", w, "34102");
        due("as it was DONE", w.about(7), 4);
    }

    private static void p05Place() {
        BladeRing x = ringOf(6);
        acts(x, "u5t0");
        due("place(0, 0)", x.place(0, 0), 5);
        due("place(5, 0)", x.place(5, 0), 0);
        due("place(0, 1)", x.place(0, 1), 0);
        due("place(5, 1)", x.place(5, 1), 1);
        for (int p : new int[] {LOW, -1, 6, 7, HIGH}) {
            due("place(" + p + ", 0)", x.place(p, 0), BAD);
        }
        for (int what : new int[] {LOW, -1, 2, HIGH}) {
            due("place(0, " + what + ")", x.place(0, what), BAD);
        }
    }

    private static void p06Blade() {
        BladeRing x = ringOf(7);
        acts(x, "u0o2u4o1u3o0u2");
        int[][] dues = {
            {1, 0, 2, 48, 1}, {1, 1, 2, 112, 1}, {1, 0, 3, 112, 3}, {1, 0, 2, 96, 3},
            {1, 4, 0, 71, 0}, {1, 4, 0, 15, 0}, {1, 2, 2, 30, 2}};
        for (int i = 0; i < 7; i++) {
            for (int what = 0; what < 5; what++) {
                due("blade(" + i + ", " + what + ")", x.blade(i, what), dues[i][what]);
            }
        }
        x.act(4, 4);
        int[] dropped = {0, 0, 0, 0, NONE};
        for (int what = 0; what < 5; what++) {
            due("dropped blade(4, " + what + ")", x.blade(4, what), dropped[what]);
        }
        due("LAYER without 4", x.blade(0, 4), 1);
        for (int i : new int[] {LOW, -1, 7, 8, HIGH}) {
            due("blade(" + i + ", 0)", x.blade(i, 0), BAD);
        }
        for (int what : new int[] {LOW, -1, 5, HIGH}) {
            due("blade(0, " + what + ")", x.blade(0, what), BAD);
        }
        BladeRing lock = lockOf7();
        for (int i = 0; i < 7; i++) {
            due("BOUND blade(" + i + ", 4)", lock.blade(i, 4), NONE);
        }
    }

    private static void p07Over() {
        BladeRing x = ringOf(5);
        acts(x, "o0");
        due("over(4, 1)", x.over(4, 1), 1);
        due("over(1, 4)", x.over(1, 4), 0);
        due("over(0, 2)", x.over(0, 2), NONE);
        due("over(0, 1), a DANCER in common", x.over(0, 1), NONE);
        due("over(2, 2)", x.over(2, 2), BAD);
        due("over(5, 5)", x.over(5, 5), BAD);
        for (int i : new int[] {LOW, -1, 5, HIGH}) {
            due("over(" + i + ", 1)", x.over(i, 1), BAD);
            due("over(1, " + i + ")", x.over(1, i), BAD);
        }
        acts(x, "d1");
        due("DROPPED", x.over(4, 1), NONE);
    }

    private static void p08About() {
        BladeRing x = ringOf(5);
        for (int what : new int[] {LOW, -1, 10, HIGH}) {
            due("about(" + what + ")", x.about(what), BAD);
        }
        acts(x, "u0t2d3");
        int[] dues = {5, 1, 0, 2, 0, NONE, -1, 4, 4, 3};
        for (int what = 0; what < 10; what++) {
            due("about(" + what + ")", x.about(what), dues[what]);
        }
        acts(x, "d0d1d2d4");
        due("no BLADE HELD: LAYERS", x.about(3), 0);
        due("no BLADE HELD: BOUND", x.about(4), 0);
        due("no BLADE HELD", x.about(8), 0);
        due("no BLADE HELD: LOCK", x.about(2), 0);
        BladeRing seven = ringOf(7);
        acts(seven, "u0o2u4o1u3o0u2");
        due("LAYERS", seven.about(3), 4);
        due("CROSSINGS", seven.about(1), 11);
    }

    private static void p08Turns() {
        BladeRing x = ringOf(5);
        acts(x, "u0");
        due("UNDER 0: TURNS", x.about(6), -1);
        BladeRing y = ringOf(5);
        acts(y, "o0");
        due("OVER 0: TURNS", y.about(6), 1);
        acts(y, "r3");
        due("TURNS after ROUND", y.about(6), 1);
        acts(y, "d4");
        due("TURNS without a DROPPED one", y.about(6), 0);
        BladeRing z = ringOf(7);
        String[] steps = {"u0", "o2", "u4", "o1", "u3", "o0", "u2"};
        int[] dues = {-1, 0, -1, -1, -1, -2, -1};
        for (int i = 0; i < steps.length; i++) {
            due(steps[i], acts(z, steps[i]), 1);
            due("TURNS after " + steps[i], z.about(6), dues[i]);
        }
    }

    /** A weaving in which no BLADE comes off; found by a search and told here by its ACTS. */
    private static BladeRing lockOf7() {
        BladeRing x = ringOf(7);
        acts(x, LOCK_OF_7);
        return x;
    }

    private static final String LOCK_OF_7 = "u0u2u1u4u3o2";
    private static void p08LockStar() {
        BladeRing x = lockOf7();
        due("LOCK", x.about(2), 1);
        due("LOCK: LAYERS", x.about(3), 0);
        due("LOCK: BOUND", x.about(4), 7);
        due("LOCK: CROSSINGS", x.about(1), 14);
        due("LOCK: STAR", x.about(5), 4);
        acts(x, "r2t1");
        due("LOCK after ROUND, TURN", x.about(2), 1);
        due("STAR after ROUND, TURN", x.about(5), 4);
        acts(x, "d0");
        due("LOCK no more with one DROPPED", x.about(2), 0);
        BladeRing y = ringOf(6);
        acts(y, "u0u2o1");
        due("BOUND but no LOCK", y.about(4), 4);
        due("no LOCK", y.about(2), 0);
        due("LAYERS and BOUND", y.about(3), 1);
        due("no STAR", y.about(5), NONE);
        // All but one BLADE have ABOVE and BELOW: 0 and 6 without ABOVE, without BELOW.
        for (String text : new String[] {"u1u3u2o6u0o1", "o1o3o2u6o0u1", "u0u2u1o5u6o0", "o0o2o1u5o6u0"}) {
            BladeRing z = ringOf(7);
            due("acts " + text, acts(z, text), 1);
            due("all HELD", z.about(8), 7);
            due("no LOCK by " + text, z.about(2), 0);
        }
        stars(5, "u0u1u4", 2);
        stars(7, "u0u1u2u6u0u5", 2);
        stars(7, "u0u1u3u2u1u4u6", 3);
        stars(7, "u0u2u1u4u3u2", 4);
        stars(7, "u0u1u0u3u2o5o6", 5);
        stars(8, "", NONE);
        stars(4, "u0", NONE);
        stars(5, "d0d1d2d3d4u0u1u4", 2);
        stars(5, "d0d1d2d3d4u0u1u2u3u0u1u2u0u1u0", NONE);
        stars(8, "d0d1d2d3d4d5d6d7u0u2u4", NONE);
    }

    private static void stars(int n, String text, int k) {
        BladeRing x = ringOf(n);
        due("acts " + text, acts(x, text), text.isEmpty() ? 0 : 1);
        due("STAR of " + n + " by " + text, x.about(5), k);
    }

    private static void p09Can() {
        BladeRing x = ringOf(5);
        due("can(0) at first", x.can(0), 31);
        due("can(1) at first", x.can(1), 31);
        acts(x, "u0");
        due("can(0)", x.can(0), 30);
        due("can(1)", x.can(1), 13);
        due("can changes nothing", x.about(9), 1);
        seats("can", x, "10234");
        for (int sort : new int[] {LOW, -1, 2, 3, 4, 5, HIGH}) {
            due("can(" + sort + ")", x.can(sort), BAD);
        }
        due("can(0) of 8", ringOf(8).can(0), 255);
        due("can(1) of 4", ringOf(4).can(1), 15);
    }

    private static void p10Feed() {
        BladeRing x = new BladeRing();
        for (int i = 1; i <= 20; i++) {
            due("feed " + i, x.feed(-1L), 8 * i);
        }
        due("feed 21", x.feed(0L), FULL);
        due("TAPE stays", x.count(3), 160);
        x.end(153);
        due("feed behind 153", x.feed(0L), FULL);
        x.end(152);
        due("feed behind 152", x.feed(0L), 160);
        BladeRing y = new BladeRing();
        y.feed(('t' * 256L + '3') << 48);
        y.end(2);
        y.feed(0x7531202020202020L);
        due("the highest byte first", y.figure(), 0);
        due("told", y.told(0, 10), 2);
        due("told", y.told(0, 300), 3);
        due("told", y.told(0, 11), 0);
        due("told", y.told(0, 301), 1);
    }

    private static void p11End() {
        BladeRing x = new BladeRing();
        due("end(0) of none", x.end(0), 0);
        due("end(1) of none", x.end(1), BAD);
        x.feed(0);
        due("end(9) of 8", x.end(9), BAD);
        due("end(-1)", x.end(-1), BAD);
        due("end(LOW)", x.end(LOW), BAD);
        due("end(HIGH)", x.end(HIGH), BAD);
        due("stays", x.count(3), 8);
        due("end(8) of 8", x.end(8), 8);
        due("end(3) of 8", x.end(3), 8);
        due("end(3) of 3", x.end(3), 3);
        due("has 3", x.count(3), 3);
        due("end(0) of 3", x.end(0), 3);
    }

    private static void p12Figure() {
        BladeRing x = new BladeRing();
        due("figure 0", Check.figure(x, "u0"), 0);
        due("TAPE is empty then", x.count(3), 0);
        due("by a FAULT", Check.figure(x, "u0 u"), -14);
        due("TAPE is empty then, too", x.count(3), 0);
        due("no FIGURE by a FAULT", x.count(0), 1);
        for (int i = 1; i < 8; i++) {
            due("figure " + i, Check.figure(x, "  f0 . "), i);
        }
        Check.put(x, "u9");
        due("figure 8", x.figure(), FULL);
        due("TAPE stays", x.count(3), 2);
        due("fault of the latest not FULL", x.fault(), 0);
        due("FIGURES", x.count(0), 8);
    }

    private static void texts(String text, int answer, int fault) {
        BladeRing x = new BladeRing();
        Check.figure(x, "10(u1)");
        due("\"" + text + "\"", Check.figure(x, text), answer);
        due("fault of \"" + text + "\"", x.fault(), fault);
    }

    private static void p13Fault() {
        texts("u0o1t2r3d4k5.f0", 1, 0);
        texts(" u 0 o 1 . 2 ( t 3 ) ", 1, 0);
        texts("u07", 1, 0);
        texts("r07r7", 1, 0);
        texts("20(.)", 1, 0);
        texts("01(.)", 1, 0);
        texts("2(2(2(2(u1))))", 1, 0);
        texts("2(.)2(.2(.))3(.)", 1, 0);
        texts("f0f0f0f0f0f0f0f0f0f0f0f0f0f0f0f0f0f0f0f0", 1, 0);
        texts("20(f0)", 1, 0);
        texts("", -10, 2);
        texts("   ", -13, 2);
        texts("20(f0).", -10, 5);
        texts("20(20(20(20(f0f0))))", -10, 5);
        texts("20(10(.))", 1, 0);
        texts("20(11(.))", -10, 5);
        texts("20(11(.)) x", -20, 1);
        texts("20(11(.)) u8", -21, 3);
        texts("20(11(.))u", -20, 2);
        texts(".".repeat(160), 1, 0);
        texts(".".repeat(157) + "2(.", -170, 2);
        texts(".".repeat(156) + "2(.)", 1, 0);
        texts(" ".repeat(159) + ".", 1, 0);
        texts(" ".repeat(160), -170, 2);
        texts("1".repeat(160), -10, 1);
        texts("u" + "0".repeat(159), -11, 1);
        BladeRing x = new BladeRing();
        due("fault at first", x.fault(), 0);
        Check.figure(x, "u");
        due("fault", x.fault(), 2);
        due("fault once more", x.fault(), 2);
        Check.figure(x, "u1");
        due("fault after one that is right", x.fault(), 0);
    }

    private static void p13FaultPlaces() {
        texts("x", -10, 1);
        texts("u1U1", -12, 1);
        texts("u1\u00e9", -12, 1);
        texts("u1\u0000", -12, 1);
        texts("u1\t", -12, 1);
        texts("u 123", -12, 1);
        texts("123(", -10, 1);
        texts("000(u1)", -10, 1);
        texts("u1)", -12, 2);
        texts(")123", -10, 2);
        texts("(u1)", -10, 2);
        texts("2()", -12, 2);
        texts(".2()", -13, 2);
        texts("2(.2())", -15, 2);
        texts("2(.)2()", -16, 2);
        texts("2(u1", -14, 2);
        texts("2(u1  ", -16, 2);
        texts("2(3(u1)", -17, 2);
        texts("2(u1))", -15, 2);
        texts("u.", -11, 2);
        texts("u(", -11, 2);
        texts("uu1", -11, 2);
        texts("5", -11, 2);
        texts("5 u1", -12, 2);
        texts("5 5(", -12, 2);
        texts("5.", -11, 2);
        texts("u1 2", -14, 2);
        texts("u12(.)", -11, 3);
        texts("u8", -11, 3);
        texts("o8", -11, 3);
        texts("t8", -11, 3);
        texts("r8", -11, 3);
        texts("d8", -11, 3);
        texts("k8", -11, 3);
        texts("k99x", -11, 3);
        texts("f1", -11, 3);
        texts("f 8", -12, 3);
        texts("0(.)", -10, 3);
        texts("00x", -10, 3);
        texts("21(.)", -10, 3);
        texts("99", -10, 3);
        texts("20", -12, 2);
        texts("2(2(2(2(2(.)))))", -19, 4);
        texts("2(2(2(2(2 (", -20, 4);
        texts("2(2(2(2(21(", -18, 3);
        texts("2(2(2(2(.)2(.)2(2(", -27, 4);
    }

    private static void p14Told() {
        BladeRing x = new BladeRing();
        Check.figure(x, "u5 2(. r7 k3) t6");
        int[] sorts = {0, 6, 3, 5, 6, 3, 5, 2};
        int[] numbers = {5, 0, 7, 3, 0, 7, 3, 6};
        due("BEATS", x.told(0, 0), 8);
        due("ACTS", x.told(0, 1), 6);
        due("the greatest number", x.told(0, 2), 6);
        for (int i = 0; i < 8; i++) {
            due("told(0, 10 + " + i + ")", x.told(0, 10 + i), sorts[i]);
            due("told(0, 300 + " + i + ")", x.told(0, 300 + i), numbers[i]);
        }
        for (int what : new int[] {LOW, -1, 3, 9, 18, 210, 299, 308, 310, HIGH}) {
            due("told(0, " + what + ")", x.told(0, what), BAD);
        }
        for (int f : new int[] {LOW, -1, 1, 7, 8, HIGH}) {
            due("told(" + f + ", 0)", x.told(f, 0), BAD);
        }
        Check.figure(x, ".r7");
        due("no such ACT", x.told(1, 2), NONE);
        Check.figure(x, "r7 d0");
        due("the greatest number 0", x.told(2, 2), 0);
        Check.figure(x, "f0 u7 o1");
        due("a call is written out", x.told(3, 0), 10);
        due("a call is written out", x.told(3, 17), 2);
        due("behind the call", x.told(3, 18), 0);
        due("the greatest number", x.told(3, 2), 7);
        Check.figure(x, "20(9(u1)o2)");
        due("200 BEATS", x.told(4, 0), 200);
        due("BEAT 199", x.told(4, 209), 1);
        due("BEAT 199", x.told(4, 499), 2);
        due("BEAT 198", x.told(4, 208), 0);
        due("BEAT 200", x.told(4, 210), BAD);
        due("BEAT 200", x.told(4, 500), BAD);
    }

    private static void p15Dance() {
        BladeRing x = new BladeRing();
        for (int f : new int[] {LOW, -1, 0, HIGH}) {
            due("dance(" + f + ")", x.dance(f), BAD);
        }
        Check.figure(x, "u0.t1r2");
        due("dance", x.dance(0), 4);
        seats("dance", x, "34102");
        due("dance", x.place(3, 1), 0);
        Check.figure(x, "t0 . u5 t1");
        due("a PLACE that there is not", x.dance(1), -102);
        due("those ahead are done", x.about(9), 4);
        x.ring(6);
        due("it is there in 6", x.dance(1), 4);
        Check.figure(x, "r1 u0u0 r1");
        x.ring(5);
        due("CAUGHT", x.dance(2), -102);
        due("done ahead", x.about(9), 2);
        Check.figure(x, "k0");
        due("STATE at once", x.dance(3), -100);
    }

    private static void p16Why() {
        BladeRing x = new BladeRing();
        due("why at first", x.why(), 0);
        Check.figure(x, "u0u0");
        Check.figure(x, "k0");
        Check.figure(x, "t7");
        Check.figure(x, "t0");
        x.dance(0);
        due("CAUGHT", x.why(), CAUGHT);
        x.dance(8);
        due("BAD dance() does not count", x.why(), CAUGHT);
        x.back(-1);
        due("BAD back() does not count", x.why(), CAUGHT);
        x.act(0, 9);
        due("act() does not count", x.why(), CAUGHT);
        x.order(1);
        x.mirrors(1);
        due("order(), mirrors() do not count", x.why(), CAUGHT);
        x.dance(1);
        due("STATE", x.why(), STATE);
        x.dance(2);
        due("BAD", x.why(), BAD);
        x.dance(3);
        due("it did not stop", x.why(), 0);
        x.back(1);
        due("back() refused TAKE", x.why(), STATE);
        x.back(3);
        due("back() did not stop", x.why(), 0);
        x.back(2);
        due("back() BAD", x.why(), BAD);
        x.village();
        x.perform(0);
        due("perform() of no FIGURE", x.why(), BAD);
        x.add(0, 3);
        x.add(0, 1);
        x.perform(0);
        due("perform() refused", x.why(), STATE);
        x.village();
        x.add(1, 3);
        x.perform(1);
        due("perform()", x.why(), 0);
        x.ring(5);
        acts(x, "u0");
        Check.figure(x, "o0");
        x.back(4);
        due("back() CAUGHT", x.why(), CAUGHT);
    }

    private static void p17Back() {
        BladeRing x = ringOf(8);
        for (int f : new int[] {LOW, -1, 0, HIGH}) {
            due("back(" + f + ")", x.back(f), BAD);
        }
        Check.figure(x, "u0.t1r3o5");
        due("dance", x.dance(0), 5);
        due("back", x.back(0), 5);
        seats("back", x, "01234567");
        due("back: CROSSINGS", x.about(1), 0);
        due("back: facings", x.about(7), 8);
        due("back from new", x.back(0), 5);
        seats("back from new", x, "43657012");
        due("DANCER 4 turned", x.place(0, 1), 0);
        due("4 UNDER 6", x.over(4, 6), 0);
        due("2 OVER 4", x.over(2, 4), 1);
        x.ring(6);
        due("back from new", x.back(0), 5);
        seats("back from new", x, "430512");
        Check.figure(x, "r7r0");
        x.ring(5);
        due("back r7r0", x.back(1), 2);
        seats("ROUND 7 back", x, "23401");
        due("ACTS", x.about(9), 2);
        x.ring(8);
        due("back r7r0", x.back(1), 2);
        seats("ROUND 7 of 8 back", x, "70123456");
        Check.figure(x, "u0 k1 t0 .");
        due("TAKE is refused", x.back(2), -102);
        due("STATE", x.why(), STATE);
        Check.figure(x, "u0 d1 t0 . .");
        due("DROP is refused", x.back(3), -103);
        due("STATE", x.why(), STATE);
        due("the BLADE stays", x.about(8), 8);
        x.ring(5);
        Check.figure(x, "t0 u7 r1");
        due("BAD on the way", x.back(4), -101);
        due("BAD", x.why(), BAD);
        acts(x, "o4");
        Check.figure(x, "u4");
        Check.figure(x, "o4");
        due("OVER 4 BACK", x.back(6), 1);
        due("free", x.about(1), 0);
        acts(x, "o4");
        due("UNDER 4 BACK is OVER 4", x.back(5), -100);
        due("CAUGHT", x.why(), CAUGHT);
        Check.figure(x, "k7");
        due("TAKE of what is not there", x.back(7), -100);
        due("is refused: STATE", x.why(), STATE);
    }

    private static void orders(int n, String before, String text, int answer) {
        BladeRing x = ringOf(n);
        acts(x, before);
        int undoable = x.about(9);
        Check.figure(x, text);
        due("order of " + text + " on " + n + " after " + before, x.order(0), answer);
        due("order changes nothing", x.about(9), undoable);
        due("order changes nothing", x.why(), 0);
        x.keep();
        due("order again", x.order(0), answer);
        due("order changes nothing", x.alike(0), 2);
    }

    private static void p18Order() {
        BladeRing x = new BladeRing();
        for (int f : new int[] {LOW, -1, 0, HIGH}) {
            due("order(" + f + ")", x.order(f), BAD);
        }
        orders(5, "", ".", 1);
        orders(5, "", "u0o0", 1);
        orders(5, "", "t0", 2);
        orders(5, "", "r1", 5);
        orders(8, "", "r1", 8);
        orders(8, "", "r7", 8);
        orders(6, "", "r4", 3);
        orders(5, "", "t0r1", 10);
        orders(8, "", "t0r1", 16);
        orders(4, "", "t0u0o2", 4);
        orders(7, "d5d6", "r3o2t3", 20);
        orders(7, "d5d0", "o5o4r3t4o4", 24);
        orders(5, "", "u0", STATE);
        orders(5, "", "d0", STATE);
        orders(5, "", "r6 u5", STATE);
        orders(5, "", "d0k0", 1);
        orders(5, "o1", "d0u1k0u1", NONE);
    }

    private static void p19Mirrors() {
        BladeRing x = new BladeRing();
        for (int f : new int[] {LOW, -1, 0, HIGH}) {
            due("mirrors(" + f + ")", x.mirrors(f), BAD);
        }
        Check.figure(x, "u0.t1r3o1");
        Check.figure(x, "u0u0");
        Check.figure(x, "u0d1");
        Check.figure(x, "d1k1t0");
        Check.figure(x, "t5");
        due("mirrors", x.mirrors(0), 1);
        due("refused in the first", x.mirrors(1), 0);
        due("refused in the second part", x.mirrors(2), 2);
        due("refused in the second part", x.mirrors(3), 2);
        due("no such PLACE", x.mirrors(4), 0);
        due("nothing is changed", x.about(9), 0);
        due("nothing is changed", x.about(8), 5);
        due("nothing is changed", x.why(), 0);
        seats("nothing is changed", x, "01234");
    }

    private static void p20Keep() {
        BladeRing x = ringOf(7);
        for (int k = 0; k < 6; k++) {
            due("keep", x.keep(), k);
            x.act(k, 1);
        }
        due("the seventh", x.keep(), FULL);
        due("POSES", x.count(1), 6);
        due("keep keeps the ACTS to undo", x.about(9), 6);
        int[] alikes = {1, 0, 1, 1, 2, 0};
        x.stand(4);
        for (int k = 0; k < 6; k++) {
            due("alike " + k, x.alike(k), alikes[k]);
        }
    }

    private static void p21Stand() {
        BladeRing x = ringOf(6);
        for (int k : new int[] {LOW, -1, 0, 5, 6, HIGH}) {
            due("stand(" + k + ")", x.stand(k), BAD);
        }
        acts(x, "u0t2d4r2");
        x.keep();
        acts(x, "u1k4r1t0");
        due("stand refused", x.stand(1), BAD);
        due("refused: ACTS can be undone", x.about(9), 7);
        due("stand", x.stand(0), 1);
        due("no ACTS can be undone", x.about(9), 0);
        due("undo", x.undo(), NONE);
        due("the same", x.alike(0), 2);
        seats("stand", x, "451023");
        due("who faces IN", x.about(7), 5);
        due("DROPPED", x.blade(4, 0), 0);
        due("1 OVER 5", x.over(1, 5), 1);
        x.act(2, 0);
        due("a POSE stays as it was kept", x.alike(0), 1);
        due("stand again", x.stand(0), 1);
        due("the same", x.alike(0), 2);
    }

    private static void p22Alike() {
        BladeRing x = ringOf(6);
        for (int k : new int[] {LOW, -1, 0, 5, 6, HIGH}) {
            due("alike(" + k + ")", x.alike(k), BAD);
        }
        acts(x, "u0");
        x.keep();
        due("the same", x.alike(0), 2);
        acts(x, "t3");
        due("but for a facing", x.alike(0), 1);
        acts(x, "t3r2");
        due("but for a ROUND", x.alike(0), 1);
        acts(x, "r4");
        due("the same again", x.alike(0), 2);
        acts(x, "d3");
        due("a BLADE DROPPED", x.alike(0), 0);
        x.undo();
        acts(x, "o3");
        due("other PLACES", x.alike(0), 0);
        x.ring(6);
        acts(x, "u0");
        x.keep();
        acts(x, "o0o0");
        due("PLACES the same, the other OVER", x.alike(0), 0);
    }

    private static void ways(int n, String goal, String start, String way, int metThen) {
        BladeRing x = ringOf(n);
        x.keep();
        acts(x, goal);
        x.keep();
        x.stand(0);
        acts(x, start);
        String name = "way on " + n + " from " + start + " to " + goal;
        due(name, x.way(1), way.length() / 2);
        due(name + " met", x.met(1), metThen);
        for (int i = 0; i < way.length() / 2; i++) {
            int act = 2 * (way.charAt(2 * i + 1) - '0') + (way.charAt(2 * i) == 'o' ? 1 : 0);
            due(name + " ACT " + i, x.wayAt(1, i), act);
        }
        due(name + " behind", x.wayAt(1, way.length() / 2), NONE);
        for (int i = 0; i < way.length(); i += 2) {
            due(name + " done", acts(x, way.substring(i, i + 2)), 1);
        }
        due(name + " is there", x.alike(1) > 0 ? 1 : 0, 1);
        due(name + " then", x.way(1), 0);
        due(name + " met then", x.met(1), 1);
        due(name + " none then", x.wayAt(1, 0), NONE);
    }

    private static void p23Way() {
        BladeRing x = ringOf(4);
        for (int k : new int[] {LOW, -1, 0, 5, 6, HIGH}) {
            due("way(" + k + ")", x.way(k), BAD);
        }
        x.keep();
        acts(x, "d1");
        due("another BLADE HELD", x.way(0), NONE);
        due("all that can be met", x.met(0), 8);
        acts(x, "k1");
        due("no ACT is wanted", x.way(0), 0);
        acts(x, "t0r3");
        due("ALIKE is enough", x.way(0), 0);
        BladeRing y = ringOf(8);
        y.keep();
        acts(y, "d0");
        due("1500 met", y.way(0), SPENT);
        due("met", y.met(0), 1500);
        due("wayAt", y.wayAt(0, 0), SPENT);
        due("wayAt", y.wayAt(0, HIGH), SPENT);
        due("wayAt below 0", y.wayAt(0, -1), BAD);
        due("the search changes nothing", y.about(9), 1);
    }

    private static void p24WayAt() {
        BladeRing x = ringOf(5);
        for (int k : new int[] {LOW, -1, 0, 5, 6, HIGH}) {
            due("wayAt(" + k + ", 0)", x.wayAt(k, 0), BAD);
        }
        x.keep();
        for (int i : new int[] {LOW, -6, -4, -1}) {
            due("wayAt(0, " + i + ")", x.wayAt(0, i), BAD);
        }
        due("wayAt(0, 0) of none", x.wayAt(0, 0), NONE);
        due("wayAt(0, HIGH)", x.wayAt(0, HIGH), NONE);
        acts(x, "d0");
        due("no way at all", x.wayAt(0, 0), NONE);
        ways(4, "u0o2", "", "u0o2", 10);
        ways(4, "t0r0t3t0r2", "r0", "", 1);
        ways(4, "u2t3r1r0t2", "o0o3", "o0u3", 10);
        ways(5, "o0o4r3", "r1", "o1o0", 29);
        ways(5, "u1u0r3o0t0", "", "u1u0o2", 68);
        ways(5, "o4r2u4t2u0", "u0t0", "o0o1u3u2", 83);
        ways(6, "t0t3o5o0t0", "o3u0", "o0u3o5o0", 246);
        ways(6, "o2o4o3u3", "o5o4", "o2u4u5o4", 362);
        ways(7, "r0u1o5", "u0u3", "o0u1o3o5", 321);
        ways(8, "o4t4o2o5", "r0", "o2o4o5", 491);
        ways(8, "r3u6r5t3", "r5", "u0", 2);
    }

    private static void p25Met() {
        BladeRing x = ringOf(6);
        for (int k : new int[] {LOW, -1, 0, 5, 6, HIGH}) {
            due("met(" + k + ")", x.met(k), BAD);
        }
        x.keep();
        due("THE RING too", x.met(0), 1);
        acts(x, "d0");
        due("all that can be met without BLADE 0", x.met(0), 844);
        acts(x, "d1d2d3d4");
        due("all that can be met with one BLADE", x.met(0), 120);
        x.ring(5);
        x.keep();
        acts(x, "d4");
        due("all of 5 with 4 BLADES", x.met(0), 60);
        acts(x, "r1t0");
        due("likewise after ROUND, TURN", x.met(0), 60);
    }

    private static void p26Village() {
        BladeRing x = new BladeRing();
        for (int v = 0; v < 4; v++) {
            due("village", x.village(), v);
            due("without FIGURES", x.danceOf(v, 0), 0);
        }
        due("the fifth", x.village(), FULL);
        due("VILLAGES", x.count(2), 4);
    }

    private static void p27Add() {
        BladeRing x = new BladeRing();
        x.village();
        due("no such FIGURE", x.add(0, 0), BAD);
        Check.figure(x, "u0");
        for (int bad : new int[] {LOW, -1, 1, 4, 8, HIGH}) {
            due("add(" + bad + ", 0)", x.add(bad, 0), BAD);
            due("add(0, " + bad + ")", x.add(0, bad), BAD);
        }
        for (int i = 1; i <= 16; i++) {
            due("add", x.add(0, 0), i);
        }
        due("the 17th", x.add(0, 0), FULL);
        due("BAD ahead of FULL", x.add(0, 1), BAD);
        due("16 FIGURES", x.danceOf(0, 0), 16);
        x.village();
        due("another VILLAGE", x.add(1, 0), 1);
    }

    private static void p28DanceOf() {
        BladeRing x = new BladeRing();
        x.village();
        Check.figure(x, "u0..");
        Check.figure(x, "20(.)");
        x.add(0, 1);
        x.add(0, 0);
        x.add(0, 0);
        due("FIGURES", x.danceOf(0, 0), 3);
        due("BEATS", x.danceOf(0, 1), 26);
        due("FIGURE 0", x.danceOf(0, 10), 1);
        due("FIGURE 1", x.danceOf(0, 11), 0);
        due("FIGURE 2", x.danceOf(0, 12), 0);
        for (int what : new int[] {LOW, -1, 2, 9, 13, 26, HIGH}) {
            due("danceOf(0, " + what + ")", x.danceOf(0, what), BAD);
        }
        for (int v : new int[] {LOW, -1, 1, 4, HIGH}) {
            due("danceOf(" + v + ", 0)", x.danceOf(v, 0), BAD);
        }
        x.village();
        due("BEATS of none", x.danceOf(1, 1), 0);
        due("FIGURE 0 of none", x.danceOf(1, 10), BAD);
    }

    private static void sharedRow(String one, String other, String row) {
        BladeRing x = new BladeRing();
        for (int f = 0; f < 8; f++) {
            Check.figure(x, ".");
        }
        x.village();
        x.village();
        for (int i = 0; i < one.length(); i++) {
            x.add(0, one.charAt(i) - '0');
        }
        for (int i = 0; i < other.length(); i++) {
            x.add(1, other.charAt(i) - '0');
        }
        due("shared by " + one + ", " + other, x.shared(0, 1, NONE), row.length());
        due("shared by " + other + ", " + one, x.shared(1, 0, NONE), row.length());
        for (int i = 0; i < row.length(); i++) {
            due("shared by " + one + ", " + other + ": " + i, x.shared(0, 1, i), row.charAt(i) - '0');
            due("shared by " + other + ", " + one + ": " + i, x.shared(1, 0, i), row.charAt(i) - '0');
        }
        due("not so long", x.shared(0, 1, row.length()), NONE);
        due("not so long", x.shared(0, 1, HIGH), NONE);
        due("with itself", x.shared(0, 0, NONE), one.length());
    }

    private static void p29Shared() {
        sharedRow("", "", "");
        sharedRow("012", "", "");
        sharedRow("01", "23", "");
        sharedRow("10", "01", "0");
        sharedRow("010", "100", "00");
        sharedRow("1203", "2130", "10");
        sharedRow("7654", "4567", "4");
        sharedRow("0123456701234567", "0123456701234567", "0123456701234567");
        sharedRow("0123456701234567", "7654321076543210", "010");
        sharedRow("0011223344556677", "01234567", "01234567");
        sharedRow("3132", "2313", "313");
        sharedRow("2020", "0202", "020");
        BladeRing x = new BladeRing();
        x.village();
        for (int bad : new int[] {LOW, -1, 1, 4, HIGH}) {
            due("shared(" + bad + ", 0, 0)", x.shared(bad, 0, 0), BAD);
            due("shared(0, " + bad + ", 0)", x.shared(0, bad, 0), BAD);
        }
        for (int i : new int[] {LOW, -5, -3, -2, -1}) {
            due("shared(0, 0, " + i + ")", x.shared(0, 0, i), BAD);
        }
        due("shared(0, 0, NONE) of nothing", x.shared(0, 0, NONE), 0);
    }

    private static void p30Perform() {
        BladeRing x = new BladeRing();
        for (int v : new int[] {LOW, -1, 0, 4, HIGH}) {
            due("perform(" + v + ")", x.perform(v), BAD);
        }
        Check.figure(x, "t0r1");
        Check.figure(x, "u1u1");
        x.village();
        due("perform of none", x.perform(0), 0);
        x.add(0, 0);
        x.add(0, 0);
        due("perform", x.perform(0), 2);
        seats("perform", x, "34012");
        due("perform", x.about(7), 3);
        due("ACTS", x.about(9), 4);
        x.add(0, 1);
        x.add(0, 0);
        due("FIGURE 2 was refused", x.perform(0), -102);
        due("CAUGHT", x.why(), CAUGHT);
        due("what is ahead is done", x.about(9), 9);
        due("once crossed", x.about(1), 1);
        x.village();
        x.add(1, 1);
        x.ring(5);
        due("FIGURE 0 was refused", x.perform(1), -100);
    }

    private static void p31Sheet() {
        BladeRing x = new BladeRing();
        for (int k : new int[] {LOW, -1, 4, HIGH}) {
            due("sheet(" + k + ", 0, 1)", x.sheet(k, 0, 1), BAD);
            due("sheet(" + k + ", 0, -1)", x.sheet(k, 0, -1), BAD);
        }
        for (int lane : new int[] {LOW, -1, 3, HIGH}) {
            due("sheet(0, " + lane + ", 1)", x.sheet(0, lane, 1), BAD);
            due("sheet(0, " + lane + ", -1)", x.sheet(0, lane, -1), BAD);
        }
        due("above 60", x.sheet(0, 0, 61), BAD);
        due("above 60", x.sheet(0, 0, HIGH), BAD);
        due("below 0", x.sheet(0, 0, -1), -14);
        due("below 0", x.sheet(0, 2, LOW), -14);
        due("still nothing", x.count(4), NONE);
        due("sheet of 60", x.sheet(0, 0, 60), 1);
        due("CELL 59", x.lay(0, 59, 1), 1);
        due("CELL 60", x.lay(0, 60, 1), -12);
        x.lay(0, 0, 4);
        due("refused", x.sheet(0, 0, -1), -14);
        due("refused", x.sheet(0, 0, 61), BAD);
        due("it stays", x.count(4), 60);
        due("and what is in it", x.scan(0, 0, 0, 1), 1);
        due("DROP 0", x.about(8), 4);
        due("a new row", x.sheet(0, 1, 2), 1);
        due("CELLS", x.count(4), 2);
        due("CELLS 0: UNDER 0", x.scan(0, 1, 0, 1), 1);
        seats("UNDER 0", x, "10234");
        due("no CELLS", x.sheet(0, 2, 0), 1);
        due("no CELLS", x.count(4), 0);
        due("no CELL 0", x.lay(0, 0, 0), -12);
        due("sheet 3", x.sheet(3, 2, 5), 1);
        due("sheet 2 has nothing", x.lay(2, 0, 0), -11);
    }

    private static void p32Lay() {
        BladeRing x = new BladeRing();
        for (int k : new int[] {LOW, -1, 4, HIGH}) {
            due("lay(" + k + ", 0, 0)", x.lay(k, 0, 0), BAD);
        }
        due("NULL", x.lay(1, -1, 0), -11);
        for (int lane = 0; lane < 3; lane++) {
            x.sheet(lane, lane, 4);
            for (int i : new int[] {LOW, -1, 4, 60, HIGH}) {
                due("lay(" + lane + ", " + i + ", 0)", x.lay(lane, i, 0), -12);
            }
        }
        lowest(0, 0x7fffff02, 1);
        lowest(0, 0x102, 1);
        lowest(0, 0x82, -21);
        lowest(0, -254, 1);
        lowest(0, -2, -21);
        lowest(1, 0x7fff0002, 1);
        lowest(1, 0x102, -21);
        lowest(1, 0x8002, -21);
        lowest(2, 2, 1);
        lowest(2, 0x10002, -21);
        lowest(2, 0x7fff0002, -21);
    }

    /** What comes of a CELL's lowest bits, read as the sort of an ACT. */
    private static void lowest(int lane, int v, int answer) {
        BladeRing x = new BladeRing();
        x.sheet(1, lane, 2);
        due("lay " + v, x.lay(1, 0, v), 1);
        due("scan of lane " + lane + " with " + v, x.scan(1, lane, 0, 1), answer);
        due("TURN 0", x.about(7), answer == 1 ? 4 : 5);
    }

    private static void p33Scan() {
        BladeRing x = new BladeRing();
        for (int bad : new int[] {LOW, -1, 4, HIGH}) {
            due("scan k " + bad, x.scan(bad, 0, 0, 1), BAD);
            due("scan lane " + (bad == 4 ? 3 : bad), x.scan(0, bad == 4 ? 3 : bad, 0, 1), BAD);
            due("scan n " + (bad == 4 ? 31 : bad), x.scan(0, 0, 0, bad == 4 ? 31 : bad), BAD);
        }
        due("NULL", x.scan(0, 0, 0, 0), -11);
        x.sheet(0, 1, 60);
        due("CAST", x.scan(0, 0, 0, 0), -13);
        due("CAST", x.scan(0, 2, -1, 1), -13);
        for (int i = 0; i < 60; i += 2) {
            x.lay(0, i, 3);
            x.lay(0, i + 1, 1);
        }
        due("30 ACTS", x.scan(0, 1, 0, 30), 30);
        due("29 and a fault", x.scan(0, 1, 2, 30), -12);
        seats("59 ROUNDS of 1", x, "12340");
        due("n 0 from anywhere", x.scan(0, 1, HIGH, 0), 0);
        due("n 0 from below 0", x.scan(0, 1, -1, 0), 0);
        for (int f : new int[] {LOW, -2, -1, 59, 60, HIGH}) {
            due("INDEX of " + f, x.scan(0, 1, f, 1), -12);
            due("INDEX of " + f, x.scan(0, 1, f, 30), -12);
        }
        due("from an odd CELL: UNDER, then", x.scan(0, 1, 57, 1), 1);
        x.ring(5);
        int[] cells = {0, 0, 0, 0, 2, 1, 4, 3, 4, 3, 3, 8, 0, 5};
        for (int i = 0; i < cells.length; i++) {
            x.lay(0, i, cells[i]);
        }
        due("CAUGHT", x.scan(0, 1, 0, 30), -25);
        due("those ahead are done", x.about(9), 1);
        due("STATE", x.scan(0, 1, 4, 3), -22);
        due("those ahead are done", x.about(9), 3);
        due("ROUND 8", x.scan(0, 1, 10, 1), -21);
        due("PLACE 5", x.scan(0, 1, 12, 1), -21);
        x.sheet(1, 0, 3);
        due("a sort without its number", x.scan(1, 0, 2, 1), -12);
        due("ACTS, then INDEX", x.scan(1, 0, 0, 2), CAUGHT - 20);
        x.ring(5);
        due("ACTS, then INDEX", x.scan(1, 0, 0, 2), -12);
        due("the first was done", x.about(9), 1);
        due("undo of scan", x.undo(), 0);
    }

    private static void p34Count() {
        BladeRing x = new BladeRing();
        for (int what : new int[] {LOW, -1, 5, HIGH}) {
            due("count(" + what + ")", x.count(what), BAD);
        }
        Check.figure(x, "u0");
        Check.figure(x, "u0");
        Check.figure(x, "u");
        x.keep();
        x.village();
        x.village();
        x.village();
        Check.put(x, "abcde");
        x.sheet(0, 0, 0);
        x.sheet(1, 0, 9);
        int[] dues = {2, 1, 3, 5, 0};
        for (int what = 0; what < 5; what++) {
            due("count(" + what + ")", x.count(what), dues[what]);
        }
    }
}
