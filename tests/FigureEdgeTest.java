/** The sentences of the document that name a boundary case: 2 THE TAPE, its FAULTS, FIGURES DONE and BACK. */
final class FigureEdgeTest extends Edge {
    public static void main(String[] args) {
        theTape();
        blanks();
        tokens();
        grammar();
        rounds();
        open();
        numbersOfActs();
        calls();
        tooLong();
        theFirstMet();
        theNextText();
        figures();
        emptyByAFault();
        fault();
        told();
        done();
        back();
        undone();
        why();
        order();
        mirrors();
        close("FigureEdgeTest");
    }

    /** What figure() and fault() answer to a text; FIGURE 0 is there, of 10 BEATS. */
    private static void text(String text, int answer, int fault) {
        BladeRing x = new BladeRing();
        Check.figure(x, "10(u1)");
        due("figure \"" + text + "\"", Check.figure(x, text), answer);
        due("fault of \"" + text + "\"", x.fault(), fault);
        due("FIGURES after \"" + text + "\"", x.count(0), fault == 0 ? 2 : 1);
        due("THE TAPE after \"" + text + "\"", x.count(3), 0);
    }

    private static void right(String text) {
        text(text, 1, 0);
    }

    private static void wrong(String text, int place, int fault) {
        text(text, -10 - place, fault);
    }

    private static int beats(String text) {
        BladeRing x = new BladeRing();
        figure(x, 0, text);
        return x.told(0, 0);
    }

    // ---- THE TAPE, feed, end

    private static void theTape() {
        says("THE TAPE has 160 bytes; FULL: more than 160");
        BladeRing x = new BladeRing();
        due("none at first", x.count(3), 0);
        for (int i = 1; i <= 20; i++) {
            due("feed " + i, x.feed(-1), 8 * i);
        }
        due("feed 21", x.feed(-1), FULL);
        due("bytes", x.count(3), 160);
        for (int had = 145; had <= 159; had++) {
            BladeRing y = new BladeRing();
            for (int i = 0; i < 20; i++) {
                y.feed(0x2020202020202020L);
            }
            y.end(had);
            due("feed behind " + had, y.feed(0x2e2e2e2e2e2e2e2eL), had <= 152 ? had + 8 : FULL);
            due("bytes", y.count(3), had <= 152 ? had + 8 : had);
            due("what came is there", y.figure(), had <= 152 ? 0 : -10 - had);
            due("eight BEATS or none", y.told(0, 0), had <= 152 ? 8 : BAD);
        }
        says("places from 0");
        wrong("x", 0, 1);
        wrong(".x", 1, 1);
        wrong(".".repeat(159) + "x", 159, 1);
        due("160 TOKENS", beats(".".repeat(160)), 160);
        wrong(".".repeat(158) + "u", 159, 2);
        wrong(".".repeat(159) + "u", 160, 2);
        wrong(".".repeat(158) + "2(", 160, 2);
        says("Eight bytes come behind THE TAPE, the highest first");
        BladeRing z = new BladeRing();
        z.feed(0x7531206f32207433L);
        z.feed(0x7235642e206b3620L);
        z.end(11);
        z.feed(0x302e206b36202020L);
        due("figure", z.figure(), 0);
        int[] acts = {0, 1, 1, 2, 2, 3, 3, 5, 4, 0};
        due("a BEAT for each", z.told(0, 0), 7);
        for (int i = 0; i < 4; i++) {
            due("sort of BEAT " + i, z.told(0, 10 + i), acts[2 * i]);
            due("number of BEAT " + i, z.told(0, 300 + i), acts[2 * i + 1]);
        }
        due("the last BEAT", z.told(0, 16) * 10 + z.told(0, 306), 56);
        says("THE TAPE keeps its first n bytes: how many it had. BAD");
        for (int n : new int[] {0, 1, 7, 8}) {
            BladeRing y = new BladeRing();
            y.feed(0x2e2e2e2e2e2e2e2eL);
            due("end(" + n + ")", y.end(n), 8);
            due("bytes", y.count(3), n);
            due("end(" + (n + 1) + ")", y.end(n + 1), BAD);
            due("bytes", y.count(3), n);
            due("figure", y.figure(), n == 0 ? -10 : 0);
            due("the first ones", y.told(0, 0), n == 0 ? BAD : n);
        }
        for (int n : new int[] {LOW, -1, 1, HIGH}) {
            due("end(" + n + ") of none", new BladeRing().end(n), BAD);
        }
        due("end(0) of none", new BladeRing().end(0), 0);
    }

    // ---- TOKENS

    private static void blanks() {
        says("any number of blanks (32) ahead of, between, behind them (none is needed");
        right("u1o2t3r4d5k6.f0.2(.)");
        right(" u 1 o 2 t 3 r 4 d 5 k 6 . f 0 . 2 ( . ) ");
        right("   u   1   2   (   .   )   ");
        right(" ".repeat(159) + ".");
        right("." + " ".repeat(159));
        right("u" + " ".repeat(158) + "1");
        right("2" + " ".repeat(79) + "(" + " ".repeat(77) + ".)");
        wrong(" ".repeat(160), 160, 2);
        wrong(" ".repeat(159) + "x", 159, 1);
        says("blanks (32), no other byte");
        for (int sign : new int[] {0, 9, 10, 13, 31, 33, 160, 255}) {
            wrong("u1" + (char) sign + "o2", 2, 1);
        }
        says("but between two NUMBERS side by side)");
        right("u1 2(.)");
        wrong("u12(.)", 1, 3);
        right("u01 2(.)");
        wrong("u012(.)", 1, 1);
        wrong("1 2(.)", 2, 2);
        right("r0 7(.)");
        wrong("r07(.)", 3, 2);
        wrong("u1 2 (2 3(.))", 8, 2);
    }

    private static void tokens() {
        says("LETTERS u, o, t, r, d, k, f, one each; ( ) . one each; 1 no TOKEN");
        for (int sign = 0; sign < 256; sign++) {
            String one = String.valueOf((char) sign);
            if ("uotrdkf".contains(one)) {
                wrong(one, 1, 2);
                right(one + "0");
            } else if (one.equals(".")) {
                right(one);
            } else if (sign == ' ') {
                wrong(one, 1, 2);
            } else if (sign >= '0' && sign <= '9') {
                wrong(one, sign == '0' ? 0 : 1, sign == '0' ? 3 : 2);
            } else {
                wrong(one, 0, one.equals("(") || one.equals(")") ? 2 : 1);
                wrong(".  " + one + "..", 3, one.equals("(") || one.equals(")") ? 2 : 1);
            }
        }
        says("NUMBERS (1 or 2 figures); a NUMBER that is too long (its first byte)");
        right("u7");
        right("u07");
        right("u00");
        wrong("u007", 1, 1);
        wrong("u 000", 2, 1);
        wrong("u1234", 1, 1);
        right("2(.)");
        right("02(.)");
        wrong("002(.)", 0, 1);
        wrong("  100(.)", 2, 1);
        wrong("u" + "1".repeat(159), 1, 1);
        wrong("9".repeat(160), 0, 1);
        says("a NUMBER too long where none can stand");
        wrong("2 123", 2, 1);
        wrong("u1 123", 3, 1);
        wrong("2(.)123", 4, 1);
    }

    private static final String[] TOKENS = {"u", "3", "(", ")", ".", ""};
    // What was read, how it goes on from there to the end, the TOKENS that can stand there.
    private static final String[][] STANDS = {
        {"", "", "u3."}, {"u", "", "3"}, {"2 ", ".)", "("}, {"2(", ")", "u3."}, {"2(.", ")", "u3.)"},
        {".", "", "u3.E"}, {"2(.)", "", "u3.E"}, {"u1 ", "", "u3.E"}, {"3(2(", "))", "u3."}, {"3(2(u1 ", "))", "u3.)"},
        {"3(2(.)", ")", "u3.)"}};

    private static void grammar() {
        says("text: item { item }; 2 a TOKEN that can not stand there (or the end: the length)");
        for (String[] stand : STANDS) {
            for (String token : TOKENS) {
                boolean can = stand[2].contains(token.isEmpty() ? "E" : token);
                if (!can) {
                    wrong(stand[0] + token, stand[0].length(), 2);
                    wrong(stand[0] + (token.isEmpty() ? "  " : "  " + token + "..."), stand[0].length() + 2, 2);
                } else {
                    right(stand[0] + token + behind(stand, token));
                }
            }
        }
        wrong("", 0, 2);
        wrong("2()", 2, 2);
        wrong("2(  )", 4, 2);
        wrong("2(2())", 4, 2);
        wrong("2(.2())", 5, 2);
        wrong("2(2(.)", 6, 2);
        wrong("2(2(.)))", 7, 2);
    }

    private static String behind(String[] stand, String token) {
        if (token.equals("u")) {
            return "1" + stand[1];
        }
        if (token.equals("3") && !stand[0].equals("u")) {
            return "(.)" + stand[1];
        }
        return token.equals(")") ? stand[1].substring(1) : stand[1];
    }

    private static void rounds() {
        says("NUMBER ( ): that often (1 to 20); of rounds 1 to 20, ahead of the ( wanted");
        for (int rounds = 1; rounds <= 20; rounds++) {
            due("BEATS", beats(rounds + "(.u1)"), 2 * rounds);
        }
        due("BEATS", beats("01(.)"), 1);
        for (String none : new String[] {"0", "00", "21", "22", "99"}) {
            wrong(none + "(.)", 0, 3);
            wrong(none, 0, 3);
            wrong(none + ".", 0, 3);
            wrong(none + "x", 0, 3);
            wrong("2(" + none + "(.))", 2, 3);
        }
        says("NUMBER ( item { item } )");
        due("BEATS", beats("2(u1.3(o1)t1)."), 2 * 6 + 1);
        BladeRing x = new BladeRing();
        figure(x, 0, "2(u1 2(o2)t3)r4");
        String sorts = "0112" + "0112" + "3";
        String numbers = "1223" + "1223" + "4";
        for (int i = 0; i < 9; i++) {
            due("sort of BEAT " + i, x.told(0, 10 + i), sorts.charAt(i) - '0');
            due("number of BEAT " + i, x.told(0, 300 + i), numbers.charAt(i) - '0');
        }
        due("BEATS", x.told(0, 0), 9);
    }

    private static void open() {
        says("( open at once 4 at most; 4 the 5th ( open (it)");
        right("1(.)");
        right("1(1(1(1(.))))");
        right("1(1(1(1(.)1(.)))1(1(1(.))))");
        right("1(1(1(1(.))))1(1(1(1(.))))");
        right("1(.)1(.)1(.)1(.)1(.)1(.)");
        wrong("1(1(1(1(1(.)))))", 9, 4);
        wrong("1(1(1(1(1(", 9, 4);
        wrong("1(1(1(1(20   (x", 13, 4);
        wrong("1(1(1(1(.)1(1(.))))", 13, 4);
        wrong(".1(1(1(1(.1(.)))))", 11, 4);
        wrong("1(1(1(1(21(", 8, 3);
        wrong("1(1(1(1(1.", 9, 2);
        wrong("1(1(1(1((", 8, 2);
    }

    private static void numbersOfActs() {
        says("3 a NUMBER out of its bounds (u, o, t, d, k: 0 to 7, r: 0 to 7)");
        for (String letter : new String[] {"u", "o", "t", "r", "d", "k"}) {
            right(letter + "0");
            right(letter + "7");
            right(letter + "07");
            wrong(letter + "8", 1, 3);
            wrong(letter + "08", 1, 3);
            wrong(letter + " 10", 2, 3);
            wrong("2(" + letter + "99)", 3, 3);
            wrong(letter, 1, 2);
            wrong(letter + " ", 2, 2);
        }
        says("told, whatever the ring: a PLACE that there is not is no FAULT");
        BladeRing x = ringOf(4);
        figure(x, 0, "u7o7t7r7d7k7");
    }

    private static void calls() {
        says("f: a FIGURE that there is");
        BladeRing x = new BladeRing();
        due("none is", Check.figure(x, "f0"), -11);
        due("FAULT", x.fault(), 3);
        for (int f = 0; f < 7; f++) {
            figure(x, f, ".");
            due("itself is not yet", Check.figure(x, "f" + (f + 1)), -11);
            due("FAULT", x.fault(), 3);
            due("8 is none", Check.figure(x, "f8"), -11);
            due("99 is none", Check.figure(x, ".f99"), -12);
        }
        figure(x, 7, "f6f0f 06f06");
        due("4 BEATS", x.told(7, 0), 4);
        says("f NUMBER: that FIGURE is done there; all rounds and calls written out");
        BladeRing y = new BladeRing();
        figure(y, 0, "u1.");
        figure(y, 1, "o2 2(f0)t3");
        figure(y, 2, "f1r4f0");
        String sorts = "1060623" + "06";
        String numbers = "2101034" + "10";
        due("BEATS", y.told(2, 0), 9);
        for (int i = 0; i < 9; i++) {
            due("sort of BEAT " + i, y.told(2, 10 + i), sorts.charAt(i) - '0');
            due("number of BEAT " + i, y.told(2, 300 + i), numbers.charAt(i) - '0');
        }
    }

    private static void tooLong() {
        says("5 more than 200 BEATS in all (when the text has ended: 0)");
        due("BEATS", beats("20(9(.).)"), 200);
        due("BEATS", beats("20(10(.))"), 200);
        wrong("20(10(.)).", 0, 5);
        wrong(".20(10(.))", 0, 5);
        wrong("20(10(.))u1", 0, 5);
        wrong("  20(10(.)).  ", 0, 5);
        wrong("20(11(.))", 0, 5);
        right("20(f0)");
        wrong("20(f0)f0", 0, 5);
        wrong("20(f0).", 0, 5);
        wrong("20(20(20(20(f0))))", 0, 5);
        right("10(f0)10(f0)");
        right("19(f0)10(.)");
        wrong("19(f0)11(.)", 0, 5);
        wrong("19(f0).f0", 0, 5);
        right(".".repeat(151) + "7(7(.))");
        wrong(".".repeat(152) + "7(7(.))", 0, 5);
        says("(when the text has ended");
        wrong("20(11(.))x", 9, 1);
        wrong("20(11(.))123", 9, 1);
        wrong("20(11(.)))", 9, 2);
        wrong("20(11(.))u", 10, 2);
        wrong("20(20(.)", 8, 2);
        wrong("20(11(.))u8", 10, 3);
        wrong("20(11(.))f1", 10, 3);
        wrong("20(11(.))0(.)", 9, 3);
        wrong("20(11(.))1(1(1(1(1(", 18, 4);
    }

    private static void theFirstMet() {
        says("the first met as it is read (a TOKEN is read when the one before has been taken)");
        wrong("u8x", 1, 3);
        wrong("u8 123", 1, 3);
        wrong("ux8", 1, 1);
        wrong("u)x", 1, 2);
        wrong("21x", 0, 3);
        wrong("2x", 1, 1);
        wrong("2 123", 2, 1);
        wrong("f1x", 1, 3);
        wrong("1(1(1(1(1(x", 9, 4);
        wrong("(x", 0, 2);
        wrong(")123", 0, 2);
        wrong("u1)u8x", 2, 2);
    }

    private static void theNextText() {
        says("THE TAPE (empty then, by a FAULT, too) tells a FIGURE: nothing of a text is left for the next");
        String[] faulty = {"x", "2(2(2(.", "u", "2", "3(", "u8", "1(1(1(1(1(", "20(11(.))", "20(20(f0)f0)", "", "123"};
        String[] next = {"f0", "f0f0", "1(f0)", "1(1(1(1(f0))))", ".", "u1", "2(.)", "20(f0)"};
        int[] beats = {10, 20, 10, 10, 1, 1, 2, 200};
        for (String text : faulty) {
            for (int i = 0; i < next.length; i++) {
                BladeRing x = new BladeRing();
                figure(x, 0, "10(u1)");
                due("a FAULT of \"" + text + "\"", Check.figure(x, text) <= -10 ? 1 : 0, 1);
                due("\"" + next[i] + "\" after \"" + text + "\"", Check.figure(x, next[i]), 1);
                due("its BEATS", x.told(1, 0), beats[i]);
                due("its FAULT", x.fault(), 0);
                due("a FAULT after it", Check.figure(x, ")"), -10);
                due("the end after it", Check.figure(x, ""), -10);
                due("no ( is open", Check.figure(x, ".)"), -11);
            }
        }
    }

    // ---- FIGURES

    private static void figures() {
        says("FIGURES (8) are numbered as they come; FULL (THE TAPE stays)");
        BladeRing x = new BladeRing();
        for (int f = 0; f < 8; f++) {
            due("a FAULT has no number", Check.figure(x, "x"), -10);
            figure(x, f, "u" + f);
            due("FIGURES", x.count(0), f + 1);
        }
        for (String text : new String[] {"u1", "x", ""}) {
            Check.put(x, text);
            due("the ninth", x.figure(), FULL);
            due("THE TAPE stays", x.count(3), text.length());
            due("fault() of the one before", x.fault(), 0);
            x.end(0);
        }
        x.ring(4);
        due("still FULL", x.figure(), FULL);
        for (int f = 0; f < 8; f++) {
            due("FIGURE " + f + " as it was", x.told(f, 300), f);
        }
    }

    private static void emptyByAFault() {
        says("THE TAPE (empty then, by a FAULT, too)");
        String[] texts = {".", "x", "", "u8", "1(1(1(1(1(", "20(11(.))", " "};
        for (String text : texts) {
            BladeRing x = new BladeRing();
            Check.figure(x, text);
            due("bytes after \"" + text + "\"", x.count(3), 0);
            due("end(1)", x.end(1), BAD);
            due("feed", x.feed(0x2e2e2e2e2e2e2e2eL), 8);
            due("figure, no byte of the one before", x.figure(), text.equals(".") ? 1 : 0);
            due("8 BEATS", x.told(text.equals(".") ? 1 : 0, 0), 8);
        }
    }

    private static void fault() {
        says("The FAULT of the latest figure() that was not FULL; 0");
        BladeRing x = new BladeRing();
        due("at first", x.fault(), 0);
        String[] texts = {"x", "", "u8", "1(1(1(1(1(", "20(11(.))"};
        for (int i = 0; i < texts.length; i++) {
            Check.figure(x, texts[i]);
            due("fault", x.fault(), i + 1);
            due("fault again", x.fault(), i + 1);
            x.dance(0);
            x.ring(4 + i);
            x.feed(0);
            x.end(0);
            due("fault after other calls", x.fault(), i + 1);
            figure(x, i, ".");
            due("fault of a right one", x.fault(), 0);
        }
        for (int f = texts.length; f < 8; f++) {
            figure(x, f, ".");
        }
        Check.put(x, "x");
        x.figure();
        due("fault, FULL", x.fault(), 0);
    }

    private static void told() {
        says("0 its BEATS, 1 those that are ACTS");
        BladeRing x = new BladeRing();
        figure(x, 0, ".");
        figure(x, 1, "20(10(.))");
        figure(x, 2, "20(10(r7))");
        due("one BEAT", x.told(0, 0), 1);
        due("none an ACT", x.told(0, 1), 0);
        due("200 BEATS", x.told(1, 0), 200);
        due("none an ACT", x.told(1, 1), 0);
        due("200 ACTS", x.told(2, 1), 200);
        says("2 the greatest number of UNDER, OVER, TURN, DROP, TAKE (NONE: no such)");
        due("nothing alone", x.told(0, 2), NONE);
        due("ROUND alone", x.told(2, 2), NONE);
        figure(x, 3, "r7u0");
        due("0 is a number", x.told(3, 2), 0);
        for (int i = 0; i < 5; i++) {
            BladeRing y = new BladeRing();
            figure(y, 0, "u1o1t1d1k1" + "uotdk".charAt(i) + "5" + "r7u1o1t1d1k1.");
            due("the greatest of " + "uotdk".charAt(i), y.told(0, 2), 5);
            figure(y, 1, "uotdk".charAt(i) + "7");
            due("the greatest is 7", y.told(1, 2), 7);
        }
        says("10 and i: of BEAT i the sort (6: nothing); 300 and i: its number (0: nothing). BAD");
        due("the first", x.told(0, 10), 6);
        due("the first", x.told(0, 300), 0);
        due("behind the last", x.told(0, 11), BAD);
        due("behind the last", x.told(0, 301), BAD);
        due("BEAT 199", x.told(2, 209), 3);
        due("BEAT 199", x.told(2, 499), 7);
        due("BEAT 200", x.told(2, 210), BAD);
        due("BEAT 200", x.told(2, 500), BAD);
        for (int what : new int[] {LOW, -1, 3, 4, 9, 210, 299, 500, HIGH}) {
            due("told(2, " + what + ")", x.told(2, what), BAD);
        }
        for (int f : outside(0, 3)) {
            due("told(" + f + ", 0)", x.told(f, 0), BAD);
        }
    }

    // ---- DONE, BACK

    private static void done() {
        says("DONE: BEAT by BEAT, up to the first ACT that is refused; how many BEATS; -100 less i");
        BladeRing x = new BladeRing();
        figure(x, 0, "20(10(r1))");
        figure(x, 1, ".");
        figure(x, 2, "19(10(t0))9(.)k0");
        figure(x, 3, "k0.");
        due("200 BEATS", x.dance(0), 200);
        due("nothing", x.dance(1), 1);
        due("BEAT 199 is refused", x.dance(2), -299);
        due("BEAT 0 is refused", x.dance(3), -100);
        for (int f : outside(0, 3)) {
            due("dance(" + f + ")", x.dance(f), BAD);
            due("back(" + f + ")", x.back(f), BAD);
        }
        says("(one of a PLACE, BLADE that there is not: BAD)");
        for (int n = 4; n <= 7; n++) {
            for (String letter : new String[] {"u", "o", "t", "d", "k"}) {
                BladeRing y = ringOf(n);
                figure(y, 0, "." + letter + (n - 1));
                figure(y, 1, "." + letter + n);
                due(letter + " of the last", y.dance(0), letter.equals("k") ? -101 : 2);
                due("why", y.why(), letter.equals("k") ? STATE : 0);
                due(letter + " of what there is not", y.dance(1), -101);
                due("why", y.why(), BAD);
                y.ring(n + 1);
                due(letter + " in a greater ring", y.dance(1), letter.equals("k") ? -101 : 2);
            }
        }
        due("ROUND 7 is always there", dancedOn(4, "r7"), 1);
    }

    private static int dancedOn(int n, String text) {
        BladeRing x = ringOf(n);
        figure(x, 0, text);
        return x.dance(0);
    }

    private static void back() {
        says("BACK: the BEATS from the last to the first, each turned about");
        BladeRing x = ringOf(6);
        figure(x, 0, "u0r1o3.t2");
        due("back", x.back(0), 5);
        seated("TURN 2, UNDER 3, ROUND 1 back, OVER 0", x, "214350");
        due("TURNS alike", x.about(6), after(6, "t2u3r5o0").about(6));
        due("facings alike", x.place(1, 1), after(6, "t2u3r5o0").place(1, 1));
        says("UNDER p becomes OVER p, OVER p UNDER p, TURN itself");
        for (int n = 4; n <= 8; n++) {
            for (int p = 0; p < n; p++) {
                BladeRing y = ringOf(n);
                figure(y, 0, "u" + p);
                figure(y, 1, "o" + p);
                figure(y, 2, "t" + p);
                int a = (p + n - 1) % n;
                int b = (p + 1) % n;
                due("UNDER BACK", y.back(0), 1);
                due("is OVER", y.over(a, b), 1);
                due("OVER BACK", y.back(1), 1);
                due("is UNDER", y.about(1), 0);
                due("OVER BACK", y.back(1), 1);
                due("is UNDER", y.over(b, a), 1);
                due("TURN BACK", y.back(2), 1);
                due("faces OUT", y.place(p, 1), 0);
            }
        }
        says("ROUND d goes d PLACES back");
        for (int n = 4; n <= 8; n++) {
            for (int d = 0; d <= 7; d++) {
                BladeRing y = ringOf(n);
                figure(y, 0, "r" + d);
                due("ROUND " + d + " BACK", y.back(0), 1);
                seated("ROUND " + d + " BACK", y, gone(first(n), -d));
                due("an ACT", y.about(9), 1);
                due("ROUND " + d, y.dance(0), 1);
                seated("ROUND " + d, y, first(n));
            }
        }
        backRefused();
    }

    private static void backRefused() {
        says("DROP, TAKE are refused: STATE");
        for (int i = 0; i < 8; i++) {
            BladeRing x = ringOf(8);
            figure(x, 0, "d" + i);
            figure(x, 1, "k" + i);
            figure(x, 2, "t0 d" + i + "..");
            due("DROP BACK of a HELD one", x.back(0), -100);
            due("STATE", x.why(), STATE);
            due("TAKE BACK of a HELD one", x.back(1), -100);
            due("STATE", x.why(), STATE);
            due("nothing is done", x.about(8) * 100 + x.about(9), 800);
            due("DROP", x.dance(0), 1);
            due("DROP BACK of a DROPPED one", x.back(0), -100);
            due("TAKE BACK of a DROPPED one", x.back(1), -100);
            due("STATE", x.why(), STATE);
            due("still DROPPED", x.blade(i, 0), 0);
            due("the third from the last", x.back(2), -102);
        }
        says("-100 less i: the i-th of them so (from 0 on) was refused");
        BladeRing x = ringOf(5);
        figure(x, 0, "k0 9(.)19(10(t0))");
        figure(x, 1, "20(10(.))");
        figure(x, 2, "..u7");
        figure(x, 3, "u7..");
        figure(x, 4, "t0u0.");
        due("the 199th", x.back(0), -299);
        due("none", x.back(1), 200);
        due("the 0th", x.back(2), -100);
        due("BAD", x.why(), BAD);
        due("the 2nd", x.back(3), -102);
        acts(x, "o0");
        due("the 1st", x.back(4), -101);
        due("CAUGHT", x.why(), CAUGHT);
    }

    private static void undone() {
        says("ACTS that were done (by any call) can be undone, the latest 12");
        BladeRing x = ringOf(6);
        figure(x, 0, "t0 . r1");
        x.village();
        x.add(0, 0);
        x.sheet(0, 0, 2);
        x.lay(0, 0, 2);
        due("act", x.act(TURN, 0) + x.about(9), 2);
        due("dance", x.dance(0) + x.about(9), 3 + 3);
        due("back", x.back(0) + x.about(9), 3 + 5);
        due("perform", x.perform(0) + x.about(9), 1 + 7);
        due("scan", x.scan(0, 0, 0, 1) + x.about(9), 1 + 8);
        for (int left = 7; left >= 0; left--) {
            due("undo", x.undo(), left);
        }
        due("undo, none", x.undo(), NONE);
        seated("all is undone", x, first(6));
        due("all is undone", x.about(7), 6);
        for (int done = 0; done <= 30; done++) {
            BladeRing y = ringOf(7);
            for (int i = 0; i < done; i++) {
                y.act(ROUND, 1);
            }
            int can = Math.min(done, 12);
            due("after " + done, y.about(9), can);
            for (int left = can - 1; left >= 0; left--) {
                due("undo", y.undo(), left);
            }
            due("no more", y.undo(), NONE);
            seated("the earlier ones stay", y, gone(first(7), done - can));
        }
        says("undo, then others");
        BladeRing z = ringOf(7);
        for (int i = 0; i < 40; i++) {
            acts(z, "r1r2");
            due("undo", z.undo(), Math.min(i + 1, 11));
        }
        seated("40 PLACES on", z, gone(first(7), 40));
        due("12 can be", z.about(9), 11);
    }

    private static void why() {
        says("Why the latest dance() .. back() stopped that was not BAD: BAD, STATE, CAUGHT of that ACT; 0");
        BladeRing x = ringOf(5);
        due("at first", x.why(), 0);
        String[] texts = {"t5", "k0", "u0u0", "."};
        int[] whys = {BAD, STATE, CAUGHT, 0};
        for (int f = 0; f < 4; f++) {
            figure(x, f, texts[f]);
        }
        for (int f = 0; f < 4; f++) {
            for (int g = 0; g < 4; g++) {
                x.ring(5);
                x.dance(f);
                due("why of " + texts[f], x.why(), whys[f]);
                x.dance(-1);
                x.back(4);
                x.perform(0);
                due("one that was BAD does not count", x.why(), whys[f]);
                x.ring(5);
                due("ring() does not count", x.why(), whys[f]);
                x.dance(g);
                due("why of " + texts[g] + " after it", x.why(), whys[g]);
            }
        }
        for (int f = 0; f < 4; f++) {
            x.ring(5);
            x.back(f);
            due("why of " + texts[f] + " BACK", x.why(), whys[f]);
        }
        says("(those of perform() too)");
        for (int f = 0; f < 4; f++) {
            x.village();
            x.add(f, 3);
            x.add(f, f);
            x.ring(5);
            x.dance(f == 3 ? 1 : 3);
            x.perform(f);
            due("why of perform() to " + texts[f], x.why(), whys[f]);
        }
    }

    private static int orderOn(int n, String before, String text) {
        BladeRing x = after(n, before);
        figure(x, 0, text);
        return x.order(0);
    }

    private static void order() {
        says("How often (1 to 60) .. until all is as it is now (PLACES, facings, HELD, OVER) for the first time");
        due("nothing: once", orderOn(5, "", "."), 1);
        due("PLACES", orderOn(8, "", "r1"), 8);
        due("PLACES", orderOn(8, "", "r6"), 4);
        due("PLACES", orderOn(8, "", "r0"), 1);
        due("facings", orderOn(8, "", "t0"), 2);
        due("PLACES and facings", orderOn(8, "", "r4t0"), 4);
        due("HELD, OVER", orderOn(8, "", "d0k0"), 1);
        due("OVER, the same again", orderOn(8, "u1", "d0o1k0u1"), 1);
        due("the most that there is", orderOn(8, "d1d3o3", "r3t0u4t2"), 30);
        due("all but PLACES", orderOn(8, "", "t0t0r7"), 8);
        says("STATE: it is refused on the way");
        due("at once", orderOn(5, "", "k0"), STATE);
        due("the second time", orderOn(5, "", "u0"), STATE);
        due("the second time, HELD", orderOn(5, "", "d0"), STATE);
        due("a PLACE that there is not", orderOn(5, "", "t5"), STATE);
        due("the third time", orderOn(5, "u0", "o0"), STATE);
        says("NONE: not in 60");
        due("OVER is another one for ever", orderOn(5, "o1", "d0u1k0u1"), NONE);
        due("likewise", orderOn(4, "u0", "d1o1k1u3"), NONE);
        says("(nothing is changed by that)");
        BladeRing x = after(5, "u0t1");
        figure(x, 0, "r1");
        figure(x, 1, "u0");
        figure(x, 2, "d0k0o1u1");
        x.keep();
        for (int f = 0; f < 3; f++) {
            int answer = x.order(f);
            due("once more", x.order(f), answer);
            due("the same", x.alike(0), 2);
            due("ACTS to undo", x.about(9), 2);
            due("why", x.why(), 0);
        }
    }

    private static void mirrors() {
        says("DONE, and BACK then, gives all as it is now (1), is refused in the first (0), in the second part (2)");
        String[] texts = {".", "u0.o2t3r7", "u0u0", "t5", "k0", "d0", "d0k0", "d0t5", "20(10(r7))", "u0o0u0o0"};
        int[] answers = {1, 1, 0, 0, 0, 2, 2, 0, 1, 1};
        for (int i = 0; i < texts.length; i++) {
            BladeRing x = ringOf(5);
            figure(x, 0, texts[i]);
            x.keep();
            due("mirrors " + texts[i], x.mirrors(0), answers[i]);
            due("nothing is changed by that", x.alike(0), 2);
            due("nothing is changed by that", x.about(9), 0);
            x.dance(0);
            x.back(0);
            due("DONE, and BACK: " + texts[i], answers[i] == 1 ? x.alike(0) : 2, 2);
        }
        says("as it is now");
        BladeRing x = ringOf(5);
        figure(x, 0, "u0");
        figure(x, 1, "t6");
        due("UNDER 0", x.mirrors(0), 1);
        acts(x, "u0");
        due("CAUGHT now", x.mirrors(0), 0);
        x.undo();
        due("no more", x.mirrors(0), 1);
        due("no PLACE 6 of 5", x.mirrors(1), 0);
        x.ring(7);
        due("PLACE 6 of 7", x.mirrors(1), 1);
    }
}
