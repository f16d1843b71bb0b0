import java.util.function.Consumer;
import java.util.function.ToIntFunction;

/**
 * "What is refused changes nothing (but THE TAPE, as told)": each call that is refused, in a new object, in the
 * midst of things and where all is full, with its answer; then the object is held beside one that was never
 * asked. Likewise each call that only asks, and what is refused after something was done.
 */
final class RefusedTest {
    private static final int BAD = -1, STATE = -2, FULL = -3, NONE = -4, CAUGHT = -5, SPENT = -6;
    private static final int LOW = Integer.MIN_VALUE, HIGH = Integer.MAX_VALUE;
    private static final Check C = new Check("RefusedTest");

    private static String state;
    private static Consumer<BladeRing> built;

    public static void main(String[] args) {
        statesAreAsMeant();
        in("new", x -> { });
        numbers(5, 0, 0, 0, 0);
        refusedWhenNew();
        asks();
        in("midst", RefusedTest::midst);
        numbers(6, 5, 2, 2, 4);
        refusedInTheMidst();
        asks();
        in("full", RefusedTest::full);
        numbers(8, 8, 6, 4, 160);
        refusedWhenFull();
        asks();
        in("midst", RefusedTest::midst);
        doneUpToWhatIsRefused();
        faultsTakeTheTapeAlone();
        C.close();
    }

    private static void in(String name, Consumer<BladeRing> how) {
        state = name;
        built = how;
    }

    private static BladeRing made(Consumer<BladeRing> then) {
        BladeRing x = new BladeRing();
        built.accept(x);
        then.accept(x);
        return x;
    }

    /** A ring of 6, something in each row, nothing full; BLADE 3 is DROPPED, 1 lies OVER 5. */
    private static void midst(BladeRing x) {
        x.ring(6);
        Check.figure(x, "u0.t1r3");
        Check.figure(x, "u0u0");
        Check.figure(x, "t0 d2 k2");
        Check.figure(x, "t0 . k0 t0");
        Check.figure(x, "r1 t7 r1");
        x.dance(1);
        x.act(2, 3);
        x.act(4, 3);
        x.act(3, 1);
        x.keep();
        x.act(0, 3);
        x.keep();
        Check.figure(x, "u8");
        Check.put(x, "u1t2");
        x.village();
        x.village();
        row(x, 0, "010");
        row(x, 1, "10");
        x.sheet(0, 0, 6);
        x.sheet(1, 1, 60);
        x.sheet(2, 2, 0);
        cells(x, 0, 3, 2, 2, 5, 4, 1);
        cells(x, 1, 2, 0, 3, 9, 0, 0, 1, 300);
    }

    /** A ring of 8 in which there is no room for anything more. */
    private static void full(BladeRing x) {
        x.ring(8);
        for (int f = 0; f < 8; f++) {
            Check.figure(x, f == 7 ? "o0o0" : "u" + f + ".");
        }
        x.dance(7);
        for (int i = 0; i < 12; i++) {
            x.act(i % 3 == 0 ? 2 : 3, 5);
        }
        for (int k = 0; k < 6; k++) {
            x.keep();
        }
        for (int v = 0; v < 4; v++) {
            x.village();
            row(x, v, "0123456776543210".substring(v) + "0000".substring(0, v));
        }
        for (int i = 0; i < 20; i++) {
            x.feed(0x7530207530203320L);
        }
        for (int k = 0; k < 4; k++) {
            x.sheet(k, k % 3, 60);
            cells(x, k, 3, k, 2, k);
        }
    }

    private static void row(BladeRing x, int v, String figures) {
        for (int i = 0; i < figures.length(); i++) {
            x.add(v, figures.charAt(i) - '0');
        }
    }

    private static void cells(BladeRing x, int k, int... values) {
        for (int i = 0; i < values.length; i++) {
            x.lay(k, i, values[i]);
        }
    }

    private static void statesAreAsMeant() {
        in("midst", RefusedTest::midst);
        BladeRing x = made(y -> { });
        int[] midst = {5, 2, 2, 4, 6};
        in("full", RefusedTest::full);
        BladeRing z = made(y -> { });
        int[] full = {8, 6, 4, 160, 60};
        for (int what = 0; what < 5; what++) {
            C.due("midst count " + what, x.count(what), midst[what]);
            C.due("full count " + what, z.count(what), full[what]);
        }
        C.due("midst undoable", x.about(9), 5);
        C.due("full undoable", z.about(9), 12);
        C.due("midst why", x.why(), CAUGHT);
        C.due("full why", z.why(), CAUGHT);
        C.due("midst fault", x.fault(), 3);
        C.due("full DANCE 3", z.danceOf(3, 0), 16);
        C.due("midst BLADE 3", x.blade(3, 0), 0);
        C.due("midst 1 OVER 5", x.over(1, 5), 1);
    }

    /** The call has its answer, and then all is as in an object that was not called. */
    private static void stays(String call, ToIntFunction<BladeRing> called, int answer) {
        for (int i = 0; i < Look.SIGHTS.length; i++) {
            BladeRing x = made(y -> { });
            C.due(state + ": " + call, called.applyAsInt(x), answer);
            same(call, i, x, made(y -> { }));
        }
    }

    private static void same(String call, int sight, BladeRing x, BladeRing y) {
        String found = Look.SIGHTS[sight].of(x);
        String wanted = Look.SIGHTS[sight].of(y);
        boolean same = found.equals(wanted);
        C.due(state + ": " + call + " leaves " + Look.NAMES[sight], same ? 1 : 0, 1);
        if (!same) {
            System.out.println("  found  " + found + "\n  wanted " + wanted);
        }
    }

    /** The call does what is told beside it, and nothing else. */
    private static void does(String call, ToIntFunction<BladeRing> called, int answer, Consumer<BladeRing> told) {
        for (int i = 0; i < Look.SIGHTS.length; i++) {
            BladeRing x = made(y -> { });
            C.due(state + ": " + call, called.applyAsInt(x), answer);
            same(call, i, x, made(told));
        }
    }

    /** The numbers just below and just above what there is, and the farthest. */
    private static int[] outside(int least, int most) {
        return new int[] {LOW, least - 1, most + 1, HIGH};
    }

    /** Every call with a number that is not as told. */
    private static void numbers(int n, int figures, int poses, int villages, int bytes) {
        for (int bad : outside(4, 8)) {
            stays("ring(" + bad + ")", x -> x.ring(bad), BAD);
        }
        for (int bad : outside(0, 5)) {
            stays("act(" + bad + ", 0)", x -> x.act(bad, 0), BAD);
        }
        for (int sort = 0; sort < 6; sort++) {
            int s = sort;
            for (int bad : outside(0, sort == 3 ? 7 : n - 1)) {
                stays("act(" + s + ", " + bad + ")", x -> x.act(s, bad), BAD);
            }
        }
        ringNumbers(n);
        for (int bad : outside(0, bytes)) {
            stays("end(" + bad + ")", x -> x.end(bad), BAD);
        }
        figureNumbers(figures);
        poseNumbers(poses);
        villageNumbers(villages, figures);
        sheetNumbers();
        for (int bad : outside(0, 4)) {
            stays("count(" + bad + ")", x -> x.count(bad), BAD);
        }
    }

    private static void ringNumbers(int n) {
        for (int bad : outside(0, n - 1)) {
            stays("place(" + bad + ", 0)", x -> x.place(bad, 0), BAD);
            stays("blade(" + bad + ", 0)", x -> x.blade(bad, 0), BAD);
            stays("over(" + bad + ", 0)", x -> x.over(bad, 0), BAD);
            stays("over(0, " + bad + ")", x -> x.over(0, bad), BAD);
        }
        stays("over(2, 2)", x -> x.over(2, 2), BAD);
        for (int bad : outside(0, 1)) {
            stays("place(0, " + bad + ")", x -> x.place(0, bad), BAD);
            stays("can(" + bad + ")", x -> x.can(bad), BAD);
        }
        for (int bad : outside(0, 4)) {
            stays("blade(0, " + bad + ")", x -> x.blade(0, bad), BAD);
        }
        for (int bad : outside(0, 9)) {
            stays("about(" + bad + ")", x -> x.about(bad), BAD);
        }
    }

    private static void figureNumbers(int figures) {
        for (int bad : outside(0, figures - 1)) {
            stays("told(" + bad + ", 0)", x -> x.told(bad, 0), BAD);
            stays("dance(" + bad + ")", x -> x.dance(bad), BAD);
            stays("back(" + bad + ")", x -> x.back(bad), BAD);
            stays("order(" + bad + ")", x -> x.order(bad), BAD);
            stays("mirrors(" + bad + ")", x -> x.mirrors(bad), BAD);
        }
        for (int bad : new int[] {LOW, -1, 3, 9, 299, HIGH}) {
            stays("told(0, " + bad + ")", x -> x.told(0, bad), BAD);
        }
    }

    private static void poseNumbers(int poses) {
        for (int bad : outside(0, poses - 1)) {
            stays("stand(" + bad + ")", x -> x.stand(bad), BAD);
            stays("alike(" + bad + ")", x -> x.alike(bad), BAD);
            stays("way(" + bad + ")", x -> x.way(bad), BAD);
            stays("wayAt(" + bad + ", 0)", x -> x.wayAt(bad, 0), BAD);
            stays("met(" + bad + ")", x -> x.met(bad), BAD);
        }
        for (int bad : new int[] {LOW, NONE, -1}) {
            stays("wayAt(0, " + bad + ")", x -> x.wayAt(0, bad), BAD);
        }
    }

    private static void villageNumbers(int villages, int figures) {
        for (int bad : outside(0, villages - 1)) {
            stays("add(" + bad + ", 0)", x -> x.add(bad, 0), BAD);
            stays("danceOf(" + bad + ", 0)", x -> x.danceOf(bad, 0), BAD);
            stays("shared(" + bad + ", 0, NONE)", x -> x.shared(bad, 0, NONE), BAD);
            stays("shared(0, " + bad + ", NONE)", x -> x.shared(0, bad, NONE), BAD);
            stays("perform(" + bad + ")", x -> x.perform(bad), BAD);
        }
        for (int bad : outside(0, figures - 1)) {
            stays("add(0, " + bad + ")", x -> x.add(0, bad), BAD);
        }
        for (int bad : new int[] {LOW, -1, 2, 9, 26, HIGH}) {
            stays("danceOf(0, " + bad + ")", x -> x.danceOf(0, bad), BAD);
        }
        for (int bad : new int[] {LOW, NONE - 1, NONE + 1, -1}) {
            stays("shared(0, 0, " + bad + ")", x -> x.shared(0, 0, bad), BAD);
        }
    }

    private static void sheetNumbers() {
        for (int bad : outside(0, 3)) {
            stays("sheet(" + bad + ", 0, 1)", x -> x.sheet(bad, 0, 1), BAD);
            stays("lay(" + bad + ", 0, 1)", x -> x.lay(bad, 0, 1), BAD);
            stays("scan(" + bad + ", 0, 0, 1)", x -> x.scan(bad, 0, 0, 1), BAD);
        }
        for (int bad : outside(0, 2)) {
            stays("sheet(0, " + bad + ", 1)", x -> x.sheet(0, bad, 1), BAD);
            stays("scan(0, " + bad + ", 0, 1)", x -> x.scan(0, bad, 0, 1), BAD);
        }
        for (int bad : outside(0, 30)) {
            stays("scan(0, 0, 0, " + bad + ")", x -> x.scan(0, 0, 0, bad), BAD);
        }
        stays("sheet(0, 1, 61)", x -> x.sheet(0, 1, 61), BAD);
        stays("sheet(0, 1, HIGH)", x -> x.sheet(0, 1, HIGH), BAD);
        stays("sheet(0, 1, -1)", x -> x.sheet(0, 1, -1), -14);
        stays("sheet(0, 1, LOW)", x -> x.sheet(0, 1, LOW), -14);
    }

    private static void refusedWhenNew() {
        stays("undo()", BladeRing::undo, NONE);
        stays("TAKE of a HELD one", x -> x.act(5, 0), STATE);
        for (int k = 0; k < 4; k++) {
            int sheet = k;
            stays("lay on nothing", x -> x.lay(sheet, 0, 1), -11);
            stays("lay on nothing, no CELL", x -> x.lay(sheet, -1, 1), -11);
            stays("scan of nothing", x -> x.scan(sheet, 0, 0, 1), -11);
            stays("scan of nothing, n 0", x -> x.scan(sheet, 2, -1, 0), -11);
        }
        stays("count(4)", x -> x.count(4), NONE);
    }

    private static void refusedInTheMidst() {
        stays("DROP of a DROPPED one", x -> x.act(4, 3), STATE);
        stays("TAKE of a HELD one", x -> x.act(5, 2), STATE);
        stays("TAKE of DANCERS apart", x -> x.act(5, 3), STATE);
        stays("UNDER, CAUGHT", x -> x.act(0, 1), CAUGHT);
        stays("over of two that do not CROSS", x -> x.over(0, 3), NONE);
        stays("told of a BEAT behind the last", x -> x.told(0, 14), BAD);
        stays("told of a BEAT behind the last", x -> x.told(0, 304), BAD);
        stays("danceOf behind the last", x -> x.danceOf(0, 13), BAD);
        stays("shared, not so long", x -> x.shared(0, 1, 2), NONE);
        stays("wayAt, not so long", x -> x.wayAt(1, 0), NONE);
        stays("order, refused on the way", x -> x.order(0), STATE);
        stays("order, refused at once", x -> x.order(3), STATE);
        stays("mirrors, refused in the first", x -> x.mirrors(4), 0);
        stays("mirrors, refused in the second part", x -> x.mirrors(2), 2);
        for (int bad : outside(0, 5)) {
            stays("lay(0, " + bad + ", 1)", x -> x.lay(0, bad, 1), -12);
            stays("scan from " + bad, x -> x.scan(0, 0, bad, 1), -12);
        }
        stays("scan from the last CELL", x -> x.scan(0, 0, 5, 1), -12);
        stays("lay on a SHEET without CELLS", x -> x.lay(2, 0, 1), -12);
        stays("scan of a SHEET without CELLS", x -> x.scan(2, 2, 0, 1), -12);
        stays("scan of another lane", x -> x.scan(0, 1, 0, 1), -13);
        stays("scan of another lane", x -> x.scan(0, 2, 0, 0), -13);
        stays("scan of another lane", x -> x.scan(1, 0, -1, 1), -13);
        stays("lay on nothing", x -> x.lay(3, 0, 1), -11);
        stays("scan of nothing", x -> x.scan(3, 0, 0, 1), -11);
        stays("scan, BAD", x -> x.scan(1, 1, 2, 1), -21);
        stays("scan, BAD", x -> x.scan(1, 1, 6, 1), -21);
        stays("scan of no ACT", x -> x.scan(1, 1, 0, 0), 0);
    }

    private static void refusedWhenFull() {
        stays("feed", x -> x.feed(1), FULL);
        stays("figure", BladeRing::figure, FULL);
        stays("keep", BladeRing::keep, FULL);
        stays("village", BladeRing::village, FULL);
        stays("add", x -> x.add(0, 0), FULL);
        stays("add", x -> x.add(3, 7), FULL);
        stays("UNDER, CAUGHT", x -> x.act(0, 1), CAUGHT);
        stays("OVER, CAUGHT", x -> x.act(1, 0), CAUGHT);
        stays("end(160)", x -> x.end(160), 160);
        stays("lay(0, 60, 1)", x -> x.lay(0, 60, 1), -12);
        stays("scan from the last CELL", x -> x.scan(0, 0, 59, 1), -12);
        stays("told behind the last BEAT", x -> x.told(0, 12), BAD);
        stays("told behind the last BEAT", x -> x.told(0, 302), BAD);
    }

    private static void asks() {
        for (int w = 0; w < 10; w++) {
            int what = w;
            stays("about(" + what + ")", x -> x.about(what), made(y -> { }).about(what));
        }
        for (int w = 0; w < 5; w++) {
            int what = w;
            stays("blade(0, " + what + ")", x -> x.blade(0, what), made(y -> { }).blade(0, what));
            stays("count(" + what + ")", x -> x.count(what), made(y -> { }).count(what));
        }
        for (int w = 0; w < 2; w++) {
            int what = w;
            stays("place(0, " + what + ")", x -> x.place(0, what), made(y -> { }).place(0, what));
            stays("can(" + what + ")", x -> x.can(what), made(y -> { }).can(what));
            stays("danceOf(0, " + what + ")", x -> x.danceOf(0, what), made(y -> { }).danceOf(0, what));
        }
        stays("over(0, 2)", x -> x.over(0, 2), made(y -> { }).over(0, 2));
        stays("fault()", BladeRing::fault, made(y -> { }).fault());
        stays("why()", BladeRing::why, made(y -> { }).why());
        for (int f = 0; f < 8; f++) {
            int figure = f;
            stays("order(" + f + ")", x -> x.order(figure), made(y -> { }).order(figure));
            stays("mirrors(" + f + ")", x -> x.mirrors(figure), made(y -> { }).mirrors(figure));
            stays("told(" + f + ", 2)", x -> x.told(figure, 2), made(y -> { }).told(figure, 2));
        }
        for (int k = 0; k < 2; k++) {
            int pose = k;
            stays("alike(" + k + ")", x -> x.alike(pose), made(y -> { }).alike(pose));
            stays("way(" + k + ")", x -> x.way(pose), made(y -> { }).way(pose));
            stays("wayAt(" + k + ", 0)", x -> x.wayAt(pose, 0), made(y -> { }).wayAt(pose, 0));
            stays("met(" + k + ")", x -> x.met(pose), made(y -> { }).met(pose));
        }
        stays("shared(0, 1, 0)", x -> x.shared(0, 1, 0), made(y -> { }).shared(0, 1, 0));
        stays("shared(1, 0, NONE)", x -> x.shared(1, 0, NONE), made(y -> { }).shared(1, 0, NONE));
    }

    private static void doneUpToWhatIsRefused() {
        does("dance, STATE in BEAT 2", x -> x.dance(3), -102, y -> {
            y.act(2, 0);
            stopAlike(y, STATE);
        });
        does("dance, BAD in BEAT 1", x -> x.dance(4), -101, y -> {
            y.act(3, 1);
            stopAlike(y, BAD);
        });
        does("back, STATE in the first", x -> x.back(2), -100, y -> stopAlike(y, STATE));
        does("back, STATE in the second", x -> x.back(3), -101, y -> {
            y.act(2, 0);
            stopAlike(y, STATE);
        });
        does("scan, those ahead are done", x -> x.scan(0, 0, 0, 4), -12, y -> {
            y.act(3, 2);
            y.act(2, 5);
            y.act(4, 1);
        });
        does("scan, then BAD", x -> x.scan(1, 1, 0, 4), -21, y -> y.act(2, 0));
        in("midst, a new ring", y -> {
            midst(y);
            y.ring(6);
        });
        does("perform, FIGURE 1 refused", x -> x.perform(0), -101, y -> {
            C.due("FIGURE 0", y.dance(0), 4);
            C.due("FIGURE 1", y.dance(1), -101);
        });
        does("perform, FIGURE 0 refused", x -> x.perform(1), -100, y -> C.due("FIGURE 1", y.dance(1), -101));
        in("midst, a new ring without BLADES", y -> {
            midst(y);
            y.ring(6);
            for (int i = 0; i < 6; i++) {
                y.act(4, i);
            }
        });
        does("perform, all", x -> x.perform(0), 3, y -> {
            C.due("FIGURE 0", y.dance(0), 4);
            C.due("FIGURE 1", y.dance(1), 2);
            C.due("FIGURE 0", y.dance(0), 4);
        });
    }

    /** why() becomes an answer and nothing else changes: a FIGURE that is refused in its first BEAT. */
    private static void stopAlike(BladeRing y, int why) {
        if (why == STATE) {
            y.back(2);
        } else {
            y.dance(4);
            y.undo();
        }
        C.due("why", y.why(), why);
    }

    private static void faultsTakeTheTapeAlone() {
        in("midst", RefusedTest::midst);
        String[] texts = {"u1t2x", "u1t2u", "u1t29", "u1t2 3(3(3(3(3(", "u1t2 20(20(.))", ""};
        int[] faults = {1, 2, 3, 4, 5, 2};
        int[] places = {4, 5, 3, 14, 0, 0};
        for (int i = 0; i < texts.length; i++) {
            String text = texts[i];
            BladeRing x = made(y -> y.end(0));
            Check.put(x, text);
            int answer = x.figure();
            C.due("FAULT " + faults[i] + " of " + text, x.fault(), faults[i]);
            C.due("THE TAPE is empty", x.count(3), 0);
            C.due("no FIGURE more", x.count(0), 5);
            C.due("place of " + text, answer, -10 - places[i]);
            same("a FAULT", 0, x, made(y -> { }));
            for (int sight = 4; sight < Look.SIGHTS.length; sight++) {
                BladeRing z = made(y -> y.end(0));
                Check.put(z, text);
                z.figure();
                same("a FAULT", sight, z, made(y -> { }));
            }
        }
    }
}
