/** The sentences of the document that name a boundary case: "What it is", the answers, 1 THE RING. */
final class RingEdgeTest extends Edge {
    public static void main(String[] args) {
        whatItIs();
        theFirstThatFits();
        theRing();
        theActs();
        theWeaving();
        close("RingEdgeTest");
    }

    // ---- What it is

    private static void whatItIs() {
        says("An object is used for at most 512 calls after it has been made");
        BladeRing x = new BladeRing();
        for (int i = 1; i < 512; i++) {
            due("call " + i, x.act(ROUND, 1), 1);
        }
        due("call 512", x.place(0, 0), 4);
        BladeRing y = new BladeRing();
        for (int i = 0; i < 128; i++) {
            due("feed", y.feed(0x7431202020202020L), 8);
            due("figure", y.figure(), i < 8 ? i : FULL);
            due("end", y.end(0), i < 8 ? 0 : 8);
            due("dance", y.dance(Math.min(i, 7)), 1);
        }
        BladeRing z = ringOf(8);
        z.keep();
        for (int i = 1; i < 256; i++) {
            due("act", z.act(i % 2 == 1 ? UNDER : OVER, 0), 1);
            due("way", z.way(0), i % 2);
        }
    }

    // ---- Terms: answers

    private static void theFirstThatFits() {
        says("BAD .., STATE .., FULL .., NONE .., CAUGHT .., SPENT .., the first that fits");
        BladeRing x = after(5, "u0d2");
        due("TAKE of a BLADE that there is not, no STATE", x.act(TAKE, 5), BAD);
        due("DROP of a BLADE that there is not, no STATE", x.act(DROP, -1), BAD);
        due("UNDER, not CAUGHT but BAD", x.act(UNDER, 5), BAD);
        due("UNDER, CAUGHT", x.act(UNDER, 0), CAUGHT);
        due("over of one and the same, not NONE", x.over(2, 2), BAD);
        due("over of what there is not, not NONE", x.over(0, 5), BAD);
        due("blade of no such what, though DROPPED", x.blade(2, 5), BAD);
        due("blade that there is not", x.blade(5, 4), BAD);
        BladeRing y = new BladeRing();
        for (int i = 0; i < 8; i++) {
            Check.figure(y, "u0");
        }
        Check.put(y, "x");
        due("figure with a FAULT, FULL first", y.figure(), FULL);
        y.village();
        for (int i = 0; i < 16; i++) {
            y.add(0, 0);
        }
        due("add, BAD ahead of FULL", y.add(0, 8), BAD);
        due("add, BAD ahead of FULL", y.add(1, 0), BAD);
        due("add, FULL", y.add(0, 7), FULL);
        BladeRing z = ringOf(8);
        z.keep();
        acts(z, "d0");
        due("wayAt, BAD ahead of SPENT", z.wayAt(0, -1), BAD);
        due("wayAt, BAD ahead of SPENT", z.wayAt(1, 0), BAD);
        due("wayAt, SPENT", z.wayAt(0, 0), SPENT);
        due("sheet, BAD ahead of SIZE", z.sheet(4, 0, -1), BAD);
        due("sheet, BAD ahead of SIZE", z.sheet(0, 3, -1), BAD);
        due("lay, BAD ahead of NULL", z.lay(4, 0, 0), BAD);
        due("scan, BAD ahead of NULL", z.scan(0, 3, 0, 0), BAD);
        due("scan, BAD ahead of NULL", z.scan(0, 0, 0, 31), BAD);
        due("shared, BAD ahead of NONE", z.shared(0, 0, NONE), BAD);
    }

    // ---- Terms: 1 THE RING

    private static void theRing() {
        says("n DANCERS (4 to 8; 5 at first) on PLACES 0 to n - 1 round");
        due("5 at first", new BladeRing().about(0), 5);
        for (int n : new int[] {LOW, -4, -1, 0, 1, 2, 3, 9, 10, HIGH}) {
            BladeRing x = ringOf(6);
            due("ring(" + n + ")", x.ring(n), BAD);
            due("ring(" + n + ") refused", x.about(0), 6);
        }
        for (int n = 4; n <= 8; n++) {
            BladeRing x = new BladeRing();
            due("ring(" + n + ")", x.ring(n), 1);
            due("DANCERS", x.about(0), n);
            due("the first PLACE", x.place(0, 0), 0);
            due("the last PLACE", x.place(n - 1, 0), n - 1);
            due("the PLACE behind the last", x.place(n, 0), BAD);
            due("the PLACE ahead of the first", x.place(-1, 0), BAD);
        }
        says("at first DANCER i on PLACE i, all facing IN; HELD (at first)");
        for (int n = 4; n <= 8; n++) {
            BladeRing x = after(n, "o0d1t2r3");
            x.ring(n);
            seated("ring " + n, x, first(n));
            due("all facing IN", x.about(7), n);
            due("all HELD", x.about(8), n);
            due("none CROSS", x.about(1), 0);
            for (int i = 0; i < n; i++) {
                due("facing IN", x.place(i, 1), 1);
                due("HELD", x.blade(i, 0), 1);
            }
        }
        behindTheLastComesTheFirst();
        twoThatCross();
        howManyBetween();
    }

    private static void behindTheLastComesTheFirst() {
        says("behind n - 1 comes 0");
        for (int n = 4; n <= 8; n++) {
            BladeRing x = after(n, "u" + (n - 1));
            seated("UNDER the last of " + n, x, n - 1 + first(n).substring(1, n - 1) + 0);
            BladeRing y = after(n, "o" + (n - 1));
            seated("OVER the last of " + n, y, n - 1 + first(n).substring(1, n - 1) + 0);
            // DANCER n - 1 goes below: of n - 1 the BLADE n - 2, of 0 the BLADE 0.
            due("UNDER: n - 2 lies below 0", x.over(0, n - 2), 1);
            due("OVER: n - 2 lies above 0", y.over(n - 2, 0), 1);
        }
        says("BLADE i joins DANCERS i and i + 1 (n - 1 and 0)");
        for (int n = 4; n <= 8; n++) {
            // DANCER 0 goes below 1 with the BLADES n - 1 and 0; BLADE 1 alone has no DANCER in common.
            BladeRing x = after(n, "u0");
            due("BLADE n - 1 is DANCER 0's", x.over(1, n - 1), 1);
            due("it alone", x.about(1), 1);
            BladeRing y = after(n, "d" + (n - 1) + "u0");
            due("without BLADE n - 1", y.about(1), 0);
            BladeRing z = after(n, "u" + (n - 2));
            // DANCER n - 2 goes below n - 1 with the BLADE n - 3, which meets n - 1's BLADE n - 1.
            due("BLADE n - 1 is DANCER n - 1's", z.over(n - 1, n - 3), 1);
        }
    }

    private static void twoThatCross() {
        says("Two HELD BLADES without a DANCER of both CROSS");
        for (int n = 4; n <= 8; n++) {
            for (int p = 0; p < n; p++) {
                BladeRing x = after(n, "o" + p);
                due("one CROSSING by OVER " + p + " of " + n, x.about(1), 1);
                for (int i = 0; i < n; i++) {
                    due("BLADES beside one another", x.over(i, (i + 1) % n), NONE);
                    due("BLADES beside one another", x.over((i + 1) % n, i), NONE);
                }
                int a = (p + n - 1) % n;
                int b = (p + 1) % n;
                due("the one OVER the other", x.over(a, b), 1);
                due("just one of two lies OVER", x.over(b, a), 0);
                due("DROP the upper one", x.act(DROP, a), 1);
                due("a DROPPED BLADE CROSSES none", x.over(a, b), NONE);
                due("none at all", x.about(1), 0);
            }
        }
        BladeRing x = after(4, "u0");
        due("4 DANCERS: 0 and 2", x.blade(0, 3), 0);
        due("4 DANCERS: 1 and 3", x.blade(1, 3), 8);
    }

    private static void howManyBetween() {
        says("if just one DANCER of the one is on a PLACE between those of the two of the other one");
        BladeRing x = after(6, "u1");
        due("none between: 0 and 3", x.over(0, 3), NONE);
        due("one between: 0 and 2", x.over(2, 0), 1);
        acts(x, "u2");
        due("both between: 0 and 2", x.over(2, 0), NONE);
        due("one between: 0 and 3", x.over(3, 0), 1);
        acts(x, "o2");
        due("one between: 0 and 2 again", x.over(2, 0), 1);
        says("(going up from the less to the greater)");
        BladeRing y = after(6, "o4");
        // DANCER 4 stands between 5 and 0 only beyond the last PLACE: BLADES 5 and 3 CROSS all the same.
        due("BLADE 5 from PLACE 0 to 4", y.over(3, 5), 1);
        for (int d = 0; d < 6; d++) {
            due("ROUND keeps it", y.act(ROUND, 1), 1);
            due("ROUND keeps who CROSS", y.blade(5, 3), 8);
            due("ROUND keeps who CROSS", y.about(1), 1);
        }
    }

    // ---- Terms: ACTS

    private static void theActs() {
        underAndOver();
        caught();
        turn();
        round();
        drop();
        take();
        sortsAndNumbers();
    }

    private static void underAndOver() {
        says("UNDER p: DANCER a on PLACE p and DANCER b on the PLACE behind it change places, a below");
        for (int n = 4; n <= 8; n++) {
            for (int p = 0; p < n; p++) {
                int q = (p + 1) % n;
                BladeRing x = after(n, "u" + p);
                due("a on q", x.place(q, 0), p);
                due("b on p", x.place(p, 0), q);
                due("a below: b's BLADE lies OVER a's", x.over(q, (p + n - 1) % n), 1);
                BladeRing y = after(n, "o" + p);
                due("a above: a's BLADE lies OVER b's", y.over((p + n - 1) % n, q), 1);
            }
        }
        says("each HELD BLADE x of a and each HELD y of b that have no DANCER in common (and are not one)");
        BladeRing x = after(8, "u1u0");
        // DANCERS 0 and 2, no BLADE joins them: 7 and 0 of DANCER 0, 1 and 2 of DANCER 2; 0 and 1 have DANCER 1.
        due("7 and 1", x.over(1, 7), 1);
        due("7 and 2", x.over(2, 7), 1);
        due("0 and 2: crossed by the first, not by the second", x.over(2, 0), NONE);
        due("0 and 1 have a DANCER in common", x.over(0, 1), NONE);
        due("CROSSINGS", x.about(1), 2);
        BladeRing y = after(4, "u0u1");
        due("4 DANCERS: 0 and 2 CROSS then", y.over(2, 0), 1);
        due("4 DANCERS: 1 and 3 did, and do not any more", y.over(1, 3), NONE);
        says("if they CROSSED, they do not any more");
        for (int n = 4; n <= 8; n++) {
            BladeRing z = after(n, "u0o0");
            due("CROSSINGS", z.about(1), 0);
            seated("back", z, first(n));
            acts(z, "o0u0");
            due("CROSSINGS", z.about(1), 0);
        }
    }

    private static void caught() {
        says("CAUGHT, if x lay otherwise than a goes (UNDER: x lay OVER y; OVER: y lay OVER x)");
        for (int n = 4; n <= 8; n++) {
            for (int p = 0; p < n; p++) {
                BladeRing x = after(n, "u" + p);
                due("UNDER, UNDER", x.act(UNDER, p), CAUGHT);
                due("can UNDER", x.can(0) >>> p & 1, 0);
                due("can OVER", x.can(1) >>> p & 1, 1);
                acts(x, "o" + p);
                BladeRing y = after(n, "o" + p);
                due("OVER, OVER", y.act(OVER, p), CAUGHT);
                due("can OVER", y.can(1) >>> p & 1, 0);
                due("can UNDER", y.can(0) >>> p & 1, 1);
                acts(y, "u" + p);
            }
        }
        says("Of each HELD BLADE x of a and each HELD y of b .. CAUGHT");
        for (String[] row : CAUGHT_BY_ONE) {
            BladeRing x = after(8, row[0]);
            int crossings = x.about(1);
            String before = seats(x);
            String name = row[1] + " after " + row[0];
            due(name, x.act("uo".indexOf(row[1].charAt(0)), row[1].charAt(1) - '0'), CAUGHT);
            due(name + ": CROSSINGS stay", x.about(1), crossings);
            seated(name, x, before);
            acts(x, (row[1].charAt(0) == 'u' ? "o" : "u") + row[1].charAt(1));
        }
        says("of HELD BLADES alone");
        acts(after(5, "u0d4"), "u0");
        acts(after(5, "u0d1"), "u0");
        due("another DROPPED", after(5, "u0d2").act(UNDER, 0), CAUGHT);
    }

    // On 8, what is done first and what is CAUGHT then, each by one pair alone: BLADES a and b - 1, a - 1 and
    // b - 1, a and b, a - 1 and b (of DANCERS a and b).
    private static final String[][] CAUGHT_BY_ONE = {{"u1", "u1"}, {"o1", "o1"}, {"u1", "o2"}, {"o1", "u2"},
        {"u1", "o0"}, {"o1", "u0"}, {"u0u1", "o0"}, {"o0o1", "u0"}};

    private static void turn() {
        says("TURN p: the DANCER on PLACE p faces the other way");
        for (int n = 4; n <= 8; n++) {
            for (int p = 0; p < n; p++) {
                BladeRing x = after(n, "r1t" + p);
                due("OUT", x.place(p, 1), 0);
                due("this one alone", x.about(7), n - 1);
                acts(x, "r7");
                due("the DANCER takes it along", x.place((p + 7) % n, 1), 0);
                acts(x, "t" + (p + 7) % n);
                due("IN again", x.about(7), n);
            }
            BladeRing y = after(n, "");
            for (int p = 0; p < n; p++) {
                acts(y, "t" + p);
            }
            due("none faces IN", y.about(7), 0);
        }
    }

    private static void round() {
        says("ROUND d (0 to 7): each DANCER goes d PLACES on");
        for (int n = 4; n <= 8; n++) {
            for (int d = 0; d <= 7; d++) {
                BladeRing x = after(n, "r" + d);
                seated("ROUND " + d + " of " + n, x, gone(first(n), d));
                due("one ACT", x.about(9), 1);
                due("ROUND keeps who CROSS", x.about(1), 0);
            }
            for (int d : new int[] {LOW, -8, -1, 8, 9, HIGH}) {
                BladeRing x = ringOf(n);
                due("ROUND " + d, x.act(ROUND, d), BAD);
                seated("ROUND " + d, x, first(n));
                due("no ACT", x.about(9), 0);
            }
        }
    }

    private static void drop() {
        says("DROP i: BLADE i is DROPPED (STATE: it is so)");
        for (int n = 4; n <= 8; n++) {
            BladeRing x = after(n, "o0t2");
            for (int i = 0; i < n; i++) {
                due("DROP " + i, x.act(DROP, i), 1);
                due("HELD", x.blade(i, 0), 0);
                due("HELD BLADES", x.about(8), n - 1 - i);
                due("ABOVE", x.blade(i, 1), 0);
                due("BELOW", x.blade(i, 2), 0);
                due("DROP " + i + " again", x.act(DROP, i), STATE);
                due("ACTS", x.about(9), i + 3);
            }
            due("no CROSSINGS", x.about(1), 0);
        }
    }

    private static void take() {
        says("TAKE i: it is HELD again (STATE: it is HELD");
        for (int n = 4; n <= 8; n++) {
            for (int i = 0; i < n; i++) {
                BladeRing x = ringOf(n);
                due("TAKE of a HELD one", x.act(TAKE, i), STATE);
                acts(x, "d" + i + "k" + i);
                due("HELD", x.blade(i, 0), 1);
                due("all HELD", x.about(8), n);
                due("TAKE again", x.act(TAKE, i), STATE);
            }
        }
        says("or its DANCERS are not on PLACES beside one another)");
        for (int n = 4; n <= 8; n++) {
            for (int i = 0; i < n; i++) {
                BladeRing x = after(n, "d" + i + "o" + (i + 1) % n);
                due("two PLACES apart", x.act(TAKE, i), STATE);
                BladeRing y = after(n, "d" + i + "o" + (i + n - 1) % n);
                due("two PLACES apart the other way", y.act(TAKE, i), STATE);
                BladeRing z = after(n, "d" + i + "o" + i + "k" + i);
                due("beside one another, changed", z.about(8), n);
                for (int d = 1; d <= 7; d++) {
                    BladeRing w = after(n, "d" + i + "r" + d + "k" + i);
                    due("beside one another, gone round", w.about(8), n);
                }
            }
            BladeRing far = loose(n, "0" + first(n).substring(2) + "1");
            due("1 behind all others is beside 0 round", far.act(TAKE, 0), 1);
            due("2 and 1 are not beside", far.act(TAKE, 1), STATE);
            due("3 is behind 2", far.act(TAKE, 2), 1);
        }
        says("TAKE: of two that CROSS none is the one taken");
        for (int n = 5; n <= 8; n++) {
            BladeRing x = after(n, "d0o0o1o0");
            int crossings = x.about(1);
            due("others CROSS", crossings > 0 ? 1 : 0, 1);
            acts(x, "k0");
            due("BLADE 0 is beside, and CROSSES none", x.blade(0, 3), 0);
            due("CROSSINGS", x.about(1), crossings);
        }
        BladeRing y = after(6, "u0");
        acts(y, "d1o0k1");
        due("what it lay OVER ahead of DROP is gone", y.over(1, 5), NONE);
    }

    private static void sortsAndNumbers() {
        says("An ACT has a sort: 0 UNDER, 1 OVER, 2 TURN, 3 ROUND, 4 DROP, 5 TAKE");
        for (int sort : new int[] {LOW, -2, -1, 6, 7, HIGH}) {
            due("act(" + sort + ", 0)", ringOf(8).act(sort, 0), BAD);
        }
        for (int sort = 0; sort < 5; sort++) {
            due("act(" + sort + ", 0)", ringOf(8).act(sort, 0), 1);
        }
        due("act(5, 0)", ringOf(8).act(5, 0), STATE);
        says("and a number: a PLACE, d, or a BLADE (0 to n - 1, of ROUND 0 to 7)");
        for (int n = 4; n <= 8; n++) {
            for (int sort = 0; sort < 6; sort++) {
                int most = sort == ROUND ? 7 : n - 1;
                due("the first", ringOf(n).act(sort, 0), sort == TAKE ? STATE : 1);
                due("the last", ringOf(n).act(sort, most), sort == TAKE ? STATE : 1);
                for (int bad : new int[] {LOW, -1, most + 1, 16, HIGH}) {
                    due("act(" + sort + ", " + bad + ") of " + n, ringOf(n).act(sort, bad), BAD);
                }
            }
        }
    }

    // ---- Terms: the weaving

    private static void theWeaving() {
        aboveAndBelow();
        lock();
        layers();
        star();
        turns();
    }

    private static void aboveAndBelow() {
        says("ABOVE of a BLADE: how many it lies OVER; BELOW: how many lie OVER it");
        BladeRing x = ringOf(5);
        for (int i = 0; i < 5; i++) {
            due("ABOVE of none", x.blade(i, 1), 0);
            due("BELOW of none", x.blade(i, 2), 0);
        }
        for (int n = 4; n <= 8; n++) {
            for (int p = 0; p < n; p++) {
                int a = (p + n - 1) % n;
                int b = (p + 1) % n;
                BladeRing y = after(n, "o" + p);
                due("ABOVE of the upper one", y.blade(a, 1), 1);
                due("BELOW of the upper one", y.blade(a, 2), 0);
                due("those the upper one CROSSES", y.blade(a, 3), 1 << b);
                due("ABOVE of the lower one", y.blade(b, 1), 0);
                due("BELOW of the lower one", y.blade(b, 2), 1);
                due("those the lower one CROSSES", y.blade(b, 3), 1 << a);
            }
        }
        // All that BLADE 0 can CROSS are n - 3: found by a search, for ABOVE and for BELOW.
        String[] aboves = {"o1", "o1u4", "o1u3o2", "o1u3o2u6", "o1u3o2u6u7"};
        String[] belows = {"u1", "u1o4", "u1u3u2", "u1u3u2o6", "u1u3u2o6o7"};
        for (int n = 4; n <= 8; n++) {
            BladeRing y = after(n, aboves[n - 4]);
            due("ABOVE of " + n, y.blade(0, 1), n - 3);
            due("BELOW of " + n, y.blade(0, 2), 0);
            due("all but those beside it", y.blade(0, 3), (1 << n) - 1 - 3 - (1 << n - 1));
            BladeRing z = after(n, belows[n - 4]);
            due("ABOVE of " + n, z.blade(0, 1), 0);
            due("BELOW of " + n, z.blade(0, 2), n - 3);
        }
    }

    private static final String LOCK_OF_7 = "u0u2u1u4u3o2";

    private static void lock() {
        says("LOCK: all BLADES are HELD, each has ABOVE and BELOW of 1 at least");
        for (int n = 4; n <= 8; n++) {
            due("no LOCK at first", ringOf(n).about(2), 0);
        }
        BladeRing x = after(7, LOCK_OF_7);
        due("LOCK", x.about(2), 1);
        for (int i = 0; i < 7; i++) {
            due("ABOVE", x.blade(i, 1) >= 1 ? 1 : 0, 1);
            due("BELOW", x.blade(i, 2) >= 1 ? 1 : 0, 1);
            due("no LOCK with one DROPPED", after(7, LOCK_OF_7 + "d" + i).about(2), 0);
        }
        due("LOCK of 8", after(8, "u0u1u4u3o5o7u6").about(2), 1);
        for (int d = 0; d <= 7; d++) {
            due("LOCK stays by ROUND, TURN", after(7, LOCK_OF_7 + "r" + d + "t" + d % 7).about(2), 1);
        }
        due("one ACT less", after(7, LOCK_OF_7.substring(0, 10)).about(2), 0);
        for (String[] row : ALMOST_LOCKS) {
            BladeRing y = after(7, row[0]);
            int with = 0;
            for (int i = 0; i < 7; i++) {
                with += y.blade(i, Integer.parseInt(row[1])) >= 1 ? 1 : 0;
            }
            due("all but one have it, by " + row[0], with, 6);
            due("no LOCK by " + row[0], y.about(2), 0);
        }
    }

    // What is done, and what one BLADE alone has not: 1 ABOVE, 2 BELOW.
    private static final String[][] ALMOST_LOCKS = {
        {"u1u3u2o6u0o1", "1"}, {"o1o3o2u6o0u1", "2"}, {"u0u2u1o5u6o0", "1"}, {"o0o2o1u5o6u0", "2"}};

    private static void layers() {
        says("of all HELD BLADES those with no other one OVER them are taken off, then again, until none is so");
        for (int n = 4; n <= 8; n++) {
            BladeRing x = ringOf(n);
            due("none CROSS: one LAYER", x.about(3), 1);
            due("none BOUND", x.about(4), 0);
            for (int i = 0; i < n; i++) {
                due("LAYER 0", x.blade(i, 4), 0);
            }
            acts(x, "u0");
            due("one CROSSING: two LAYERS", x.about(3), 2);
            due("the lower one", x.blade(n - 1, 4), 1);
            due("the upper one", x.blade(1, 4), 0);
            BladeRing y = loose(n, first(n));
            due("no BLADE HELD: no LAYER", y.about(3), 0);
            due("no BLADE HELD: none BOUND", y.about(4), 0);
            due("DROPPED: NONE", y.blade(0, 4), NONE);
            acts(y, "k" + (n - 1));
            due("one BLADE HELD: one LAYER", y.about(3), 1);
            due("it comes off first", y.blade(n - 1, 4), 0);
        }
        says("(of those that are left)");
        BladeRing z = after(7, "u0o2u4o1u3o0u2");
        due("LAYERS", z.about(3), 4);
        due("the last LAYER", z.blade(2, 4), 3);
        String[] chains = {"", "u0u2o1", "", "u0u1u0u0u3o2u1u5u5u4o6", "u0u1u0u0o3u2o1u4u6o5"};
        for (int n = 5; n <= 8; n++) {
            BladeRing y = after(n, chains[n - 4]);
            due("each a LAYER of its own of " + n, y.about(3), chains[n - 4].isEmpty() ? 1 : n);
            due("none BOUND", y.about(4), 0);
        }
        says("what is left is BOUND");
        BladeRing all = after(7, LOCK_OF_7);
        due("all BOUND", all.about(4), 7);
        due("no LAYER", all.about(3), 0);
        BladeRing some = after(6, "u0u2o1");
        due("some BOUND", some.about(4), 4);
        due("one LAYER", some.about(3), 1);
        int off = 0;
        for (int i = 0; i < 6; i++) {
            off += some.blade(i, 4) == 0 ? 1 : 0;
            due("LAYER 0 or BOUND", some.blade(i, 4) == 0 || some.blade(i, 4) == NONE ? 1 : 0, 1);
        }
        due("two come off", off, 2);
    }

    private static void star() {
        says("STAR k (2 to n - 2): DANCER i + 1 is always k PLACES behind DANCER i");
        for (int n = 4; n <= 8; n++) {
            for (int k = 1; k < n; k++) {
                StringBuilder row = new StringBuilder(first(n));
                boolean all = true;
                boolean[] taken = new boolean[n];
                for (int i = 0; i < n; i++) {
                    all &= !taken[i * k % n];
                    taken[i * k % n] = true;
                    row.setCharAt(i * k % n, (char) ('0' + i));
                }
                if (all) {
                    star(n, row.toString(), k >= 2 && k <= n - 2 ? k : NONE);
                }
            }
        }
        says("always");
        // STARS of 7 and 8 with two DANCERS changed.
        star(7, "1405263", NONE);
        star(8, "0361472" + 5, 3);
        star(8, "0361475" + 2, NONE);
        star(8, "3061472" + 5, NONE);
    }

    private static void star(int n, String dancers, int k) {
        BladeRing x = loose(n, dancers);
        for (int d = 0; d < n; d++) {
            due("STAR of " + dancers + " gone " + d, x.about(5), k);
            x.act(ROUND, 1);
        }
        x.act(TURN, 0);
        due("STAR of " + dancers + " turned", x.about(5), k);
    }

    private static void turns() {
        says("each two that CROSS count 1, if the DANCER to whom the lower one goes is on a PLACE met going up"
            + " (round) from the PLACE to which the upper one goes to that from which it comes; else -1");
        for (int n = 4; n <= 8; n++) {
            due("none CROSS", ringOf(n).about(6), 0);
            for (int p = 0; p < n; p++) {
                for (int d = 0; d <= 7; d++) {
                    due("UNDER " + p + " of " + n, after(n, "u" + p + "r" + d).about(6), -1);
                    due("OVER " + p + " of " + n, after(n, "o" + p + "r" + d).about(6), 1);
                }
            }
        }
        says("summed");
        due("two of one sort", after(6, "u0u2").about(6), -2);
        due("two of two sorts", after(6, "u0o2").about(6), 0);
        due("LOCK of 7", after(7, LOCK_OF_7).about(6), -4);
        says("HELD ones alone");
        due("one DROPPED", after(6, "u0u2d5").about(6), -1);
    }
}
