import java.util.Arrays;

/** Dancers in a ring joined by blades: the weaving, figures, poses and ways, villages, sheets. */
public final class BladeRing {
    public static final int BAD = -1, STATE = -2, FULL = -3, NONE = -4, CAUGHT = -5, SPENT = -6;

    private static final int UNDER = 0, OVER = 1, TURN = 2, ROUND = 3, DROP = 4, TAKE = 5;
    // What stands behind the sorts of ACTS: a BEAT in which nothing is done, and a call in a text.
    private static final int NOTHING = 6, CALL = 6;

    private static final int DANCERS_LEAST = 4, DANCERS_MOST = 8, DANCERS_AT_FIRST = 5;
    private static final int UNDO_MOST = 12;
    private static final int TAPE_MOST = 160, BEATS_MOST = 200, OPEN_MOST = 4, ROUNDS_MOST = 20;
    private static final int FIGURES_MOST = 8, POSES_MOST = 6, VILLAGES_MOST = 4, DANCE_MOST = 16;
    private static final int ORDER_MOST = 60, MET_MOST = 1500;
    private static final int SHEETS_ALL = 4, LANES_ALL = 3, CELLS_MOST = 60, SCAN_MOST = 30;

    private static final int NULL_FAULT = 1, INDEX_FAULT = 2, CAST_FAULT = 3, SIZE_FAULT = 4;

    private final Floor floor = new Floor();
    // Where order() and mirrors() try a FIGURE out, so that THE RING stays as it is.
    private final Floor trial = new Floor();
    private final Weave probe = new Weave();
    private final Weave[] poses = new Weave[POSES_MOST];
    private int poseCount;
    private final Search search = new Search();
    private final Tape tape = new Tape();
    private final Teller teller = new Teller();
    private final Figure[] figures = new Figure[FIGURES_MOST];
    private int figureCount;
    private int latestFault;
    private int latestStop;
    private final Village[] villages = new Village[VILLAGES_MOST];
    private int villageCount;
    private final Sharing sharing = new Sharing();
    private final Sheet[] sheets = new Sheet[SHEETS_ALL];

    public BladeRing() {
        for (int i = 0; i < poses.length; i++) {
            poses[i] = new Weave();
        }
        for (int i = 0; i < figures.length; i++) {
            figures[i] = new Figure();
        }
        for (int i = 0; i < villages.length; i++) {
            villages[i] = new Village();
        }
        for (int i = 0; i < sheets.length; i++) {
            sheets[i] = new Sheet();
        }
    }

    // ---- the ring

    public int ring(int n) {
        if (n < DANCERS_LEAST || n > DANCERS_MOST) {
            return BAD;
        }
        floor.now.begin(n);
        floor.forget();
        poseCount = 0;
        return 1;
    }

    public int act(int sort, int number) {
        return floor.attempt(sort, number);
    }

    public int undo() {
        return floor.takeBack();
    }

    public int place(int p, int what) {
        Weave now = floor.now;
        if (p < 0 || p >= now.dancers) {
            return BAD;
        }
        switch (what) {
            case 0: return now.dancerAt(p);
            case 1: return (now.inward >>> now.dancerAt(p)) & 1;
            default: return BAD;
        }
    }

    public int blade(int i, int what) {
        Weave now = floor.now;
        if (i < 0 || i >= now.dancers) {
            return BAD;
        }
        switch (what) {
            case 0: return (now.held >>> i) & 1;
            case 1: return Integer.bitCount(now.thoseBelow(i));
            case 2: return Integer.bitCount(now.thoseAbove(i));
            case 3: return now.thoseBelow(i) | now.thoseAbove(i);
            case 4: return now.layerOf(i);
            default: return BAD;
        }
    }

    public int over(int i, int j) {
        Weave now = floor.now;
        if (i < 0 || i >= now.dancers || j < 0 || j >= now.dancers || i == j) {
            return BAD;
        }
        if (now.lies(i, j)) {
            return 1;
        }
        return now.lies(j, i) ? 0 : NONE;
    }

    public int about(int what) {
        Weave now = floor.now;
        switch (what) {
            case 0: return now.dancers;
            case 1: return Long.bitCount(now.overs);
            case 2: return now.isLock() ? 1 : 0;
            case 3: return now.layers();
            case 4: return Integer.bitCount(now.bound());
            case 5: return now.star();
            case 6: return now.turns();
            case 7: return Integer.bitCount(now.inward);
            case 8: return Integer.bitCount(now.held);
            case 9: return floor.undoable;
            default: return BAD;
        }
    }

    public int can(int sort) {
        if (sort != UNDER && sort != OVER) {
            return BAD;
        }
        int sum = 0;
        for (int p = 0; p < floor.now.dancers; p++) {
            probe.become(floor.now);
            if (probe.change(sort, p) == 1) {
                sum |= 1 << p;
            }
        }
        return sum;
    }

    // ---- figures

    public int feed(long v) {
        return tape.append(v) ? tape.length : FULL;
    }

    public int end(int n) {
        int had = tape.length;
        if (n < 0 || n > had) {
            return BAD;
        }
        tape.length = n;
        return had;
    }

    public int figure() {
        if (figureCount >= figures.length) {
            return FULL;
        }
        teller.tell(tape, figures, figureCount);
        tape.length = 0;
        latestFault = teller.fault;
        if (latestFault != 0) {
            return -10 - teller.faultPlace;
        }
        figures[figureCount].become(teller.draft);
        figureCount++;
        return figureCount - 1;
    }

    public int fault() {
        return latestFault;
    }

    public int told(int f, int what) {
        if (!isFigure(f)) {
            return BAD;
        }
        Figure figure = figures[f];
        switch (what) {
            case 0: return figure.length;
            case 1: return figure.acts();
            case 2: return figure.greatest();
            default: break;
        }
        if (what >= 10 && what < 10 + figure.length) {
            return figure.sortOf(what - 10);
        }
        if (what >= 300 && what < 300 + figure.length) {
            return figure.numberOf(what - 300);
        }
        return BAD;
    }

    public int dance(int f) {
        return isFigure(f) ? doneOnFloor(figures[f], false) : BAD;
    }

    public int why() {
        return latestStop;
    }

    public int back(int f) {
        return isFigure(f) ? doneOnFloor(figures[f], true) : BAD;
    }

    public int order(int f) {
        if (!isFigure(f)) {
            return BAD;
        }
        trial.now.become(floor.now);
        for (int times = 1; times <= ORDER_MOST; times++) {
            trial.run(figures[f], false);
            if (trial.refusal != 0) {
                return STATE;
            }
            if (trial.now.isAs(floor.now)) {
                return times;
            }
        }
        return NONE;
    }

    public int mirrors(int f) {
        if (!isFigure(f)) {
            return BAD;
        }
        trial.now.become(floor.now);
        trial.run(figures[f], false);
        if (trial.refusal != 0) {
            return 0;
        }
        trial.run(figures[f], true);
        // An ACT turned about always gives what was before it, so nothing else can come of it.
        return trial.refusal != 0 ? 2 : 1;
    }

    // ---- poses, ways

    public int keep() {
        if (poseCount >= poses.length) {
            return FULL;
        }
        poses[poseCount].become(floor.now);
        poseCount++;
        return poseCount - 1;
    }

    public int stand(int k) {
        if (!isPose(k)) {
            return BAD;
        }
        floor.now.become(poses[k]);
        floor.forget();
        return 1;
    }

    public int alike(int k) {
        if (!isPose(k)) {
            return BAD;
        }
        if (floor.now.isAs(poses[k])) {
            return 2;
        }
        return floor.now.isAlike(poses[k]) ? 1 : 0;
    }

    public int way(int k) {
        if (!isPose(k)) {
            return BAD;
        }
        search.find(floor.now, poses[k]);
        return search.answer;
    }

    public int wayAt(int k, int i) {
        if (!isPose(k) || i < 0) {
            return BAD;
        }
        search.find(floor.now, poses[k]);
        if (search.answer == SPENT) {
            return SPENT;
        }
        return i < search.answer ? search.actOfWay(i) : NONE;
    }

    public int met(int k) {
        if (!isPose(k)) {
            return BAD;
        }
        search.find(floor.now, poses[k]);
        return search.metCount;
    }

    // ---- villages

    public int village() {
        if (villageCount >= villages.length) {
            return FULL;
        }
        villageCount++;
        return villageCount - 1;
    }

    public int add(int v, int f) {
        if (!isVillage(v) || !isFigure(f)) {
            return BAD;
        }
        return villages[v].append(f) ? villages[v].length : FULL;
    }

    public int danceOf(int v, int what) {
        if (!isVillage(v)) {
            return BAD;
        }
        Village village = villages[v];
        switch (what) {
            case 0: return village.length;
            case 1: return beatsOf(village);
            default: break;
        }
        return what >= 10 && what < 10 + village.length ? village.figureAt(what - 10) : BAD;
    }

    public int shared(int v, int w, int i) {
        if (!isVillage(v) || !isVillage(w) || i < 0 && i != NONE) {
            return BAD;
        }
        sharing.find(villages[v], villages[w]);
        if (i == NONE) {
            return sharing.row.length;
        }
        return i < sharing.row.length ? sharing.row.figureAt(i) : NONE;
    }

    public int perform(int v) {
        if (!isVillage(v)) {
            return BAD;
        }
        Village village = villages[v];
        for (int i = 0; i < village.length; i++) {
            int f = village.figureAt(i);
            if (isFigure(f) && doneOnFloor(figures[f], false) < 0) {
                return -100 - i;
            }
        }
        return village.length;
    }

    // ---- sheets

    public int sheet(int k, int lane, int n) {
        if (!isSheet(k) || !isLane(lane) || n > CELLS_MOST) {
            return BAD;
        }
        if (n < 0) {
            return -10 - SIZE_FAULT;
        }
        sheets[k].make(lane, n);
        return 1;
    }

    public int lay(int k, int i, int v) {
        if (!isSheet(k)) {
            return BAD;
        }
        if (sheets[k].isNothing()) {
            return -10 - NULL_FAULT;
        }
        return sheets[k].put(i, v) ? 1 : -10 - INDEX_FAULT;
    }

    public int scan(int k, int lane, int f, int n) {
        if (!isSheet(k) || !isLane(lane) || n < 0 || n > SCAN_MOST) {
            return BAD;
        }
        Sheet sheet = sheets[k];
        if (sheet.isNothing()) {
            return -10 - NULL_FAULT;
        }
        if (sheet.lane != lane) {
            return -10 - CAST_FAULT;
        }
        for (int i = 0; i < n; i++) {
            int cell = f + 2 * i;
            if (!sheet.has(cell) || !sheet.has(cell + 1)) {
                return -10 - INDEX_FAULT;
            }
            int answer = floor.attempt(sheet.cellAt(cell), sheet.cellAt(cell + 1));
            if (answer != 1) {
                return -20 + answer;
            }
        }
        return n;
    }

    public int count(int what) {
        switch (what) {
            case 0: return figureCount;
            case 1: return poseCount;
            case 2: return villageCount;
            case 3: return tape.length;
            case 4: return sheets[0].isNothing() ? NONE : sheets[0].size;
            default: return BAD;
        }
    }

    // ---- what several calls ask

    private boolean isFigure(int f) {
        return f >= 0 && f < figureCount && f < figures.length;
    }

    private boolean isPose(int k) {
        return k >= 0 && k < poseCount && k < poses.length;
    }

    private boolean isVillage(int v) {
        return v >= 0 && v < villageCount && v < villages.length;
    }

    private boolean isSheet(int k) {
        return k >= 0 && k < sheets.length;
    }

    private boolean isLane(int lane) {
        return lane >= 0 && lane < LANES_ALL;
    }

    private int doneOnFloor(Figure figure, boolean backward) {
        int beats = floor.run(figure, backward);
        latestStop = floor.refusal;
        return latestStop == 0 ? beats : -100 - beats;
    }

    private int beatsOf(Village village) {
        int sum = 0;
        for (int i = 0; i < village.length; i++) {
            int f = village.figureAt(i);
            if (isFigure(f)) {
                sum += figures[f].length;
            }
        }
        return sum;
    }

    /** A weaving, held in numbers alone, so that a copy of it makes no object. */
    private static final class Weave {
        int dancers;
        // 4 bits a PLACE, the lowest for PLACE 0: the DANCER on it.
        long seats;
        // A bit a DANCER: whether they face IN.
        int inward;
        // A bit a BLADE.
        int held;
        // Bit 8 i + j: BLADE i lies OVER BLADE j. Who CROSSES is known by it alone: each ACT keeps it so.
        long overs;

        Weave() {
            begin(DANCERS_AT_FIRST);
        }

        void begin(int n) {
            dancers = n;
            seats = 0x76543210L & seatBits();
            inward = (1 << n) - 1;
            held = (1 << n) - 1;
            overs = 0;
        }

        void become(Weave other) {
            dancers = other.dancers;
            seats = other.seats;
            inward = other.inward;
            held = other.held;
            overs = other.overs;
        }

        boolean isAs(Weave other) {
            return dancers == other.dancers && seats == other.seats && inward == other.inward
                && held == other.held && overs == other.overs;
        }

        boolean isAlike(Weave other) {
            return dancers == other.dancers && held == other.held && overs == other.overs
                && seatsFromFirst() == other.seatsFromFirst();
        }

        int next(int i) {
            return i + 1 < dancers ? i + 1 : 0;
        }

        int previous(int i) {
            return i > 0 ? i - 1 : dancers - 1;
        }

        int dancerAt(int p) {
            return (int) (seats >>> (4 * p)) & 15;
        }

        int placeOf(int dancer) {
            for (int p = 0; p < dancers; p++) {
                if ((seats >>> (4 * p) & 15) == dancer) {
                    return p;
                }
            }
            return 0;
        }

        /** How many PLACES one goes up, round, from p to q. */
        int stepsUp(int p, int q) {
            return q >= p ? q - p : q - p + dancers;
        }

        long seatBits() {
            return (1L << (4 * dancers)) - 1;
        }

        /** The seats after a ROUND of d, d from 0 to the number of DANCERS. */
        long seatsAfter(int d) {
            return (seats << (4 * d) | seats >>> (4 * (dancers - d))) & seatBits();
        }

        /** The seats after the ROUND that brings DANCER 0 to PLACE 0: the same for all that are ALIKE. */
        long seatsFromFirst() {
            return seatsAfter(dancers - placeOf(0));
        }

        long overBit(int i, int j) {
            return 1L << (8 * i + j);
        }

        boolean lies(int i, int j) {
            return (overs & overBit(i, j)) != 0;
        }

        /** Those BLADES that i lies OVER. */
        int thoseBelow(int i) {
            return (int) (overs >>> (8 * i)) & 255;
        }

        /** Those BLADES that lie OVER i. */
        int thoseAbove(int i) {
            int those = 0;
            for (int j = 0; j < dancers; j++) {
                if (lies(j, i)) {
                    those |= 1 << j;
                }
            }
            return those;
        }

        // ---- ACTS: 1, or why one is refused

        int change(int sort, int number) {
            if (sort < UNDER || sort > TAKE || number < 0 || number >= (sort == ROUND ? 8 : dancers)) {
                return BAD;
            }
            switch (sort) {
                case UNDER: return pass(number, false);
                case OVER: return pass(number, true);
                case TURN: inward ^= 1 << dancerAt(number); return 1;
                case ROUND: seats = seatsAfter(withinRing(number)); return 1;
                case DROP: return letGo(number);
                default: return takeUp(number);
            }
        }

        int withinRing(int d) {
            return d >= dancers ? d - dancers : d;
        }

        int pass(int p, boolean above) {
            int q = next(p);
            int a = dancerAt(p);
            int b = dancerAt(q);
            long after = overs;
            for (int pair = 0; pair < 4; pair++) {
                int x = (pair & 1) == 0 ? a : previous(a);
                int y = (pair & 2) == 0 ? b : previous(b);
                if (!canCross(x, y)) {
                    continue;
                }
                long against = above ? overBit(y, x) : overBit(x, y);
                if ((after & against) != 0) {
                    return CAUGHT;
                }
                after ^= above ? overBit(x, y) : overBit(y, x);
            }
            overs = after;
            long swap = a ^ b;
            seats ^= swap << (4 * p) | swap << (4 * q);
            return 1;
        }

        /** Whether both are HELD and have no DANCER in common. */
        boolean canCross(int x, int y) {
            int apart = Math.abs(x - y);
            return apart > 1 && apart < dancers - 1 && (held >>> x & held >>> y & 1) != 0;
        }

        int letGo(int i) {
            if ((held >>> i & 1) == 0) {
                return STATE;
            }
            held &= ~(1 << i);
            overs &= ~(255L << (8 * i) | 0x0101010101010101L << i);
            return 1;
        }

        int takeUp(int i) {
            int steps = stepsUp(placeOf(i), placeOf(next(i)));
            if ((held >>> i & 1) != 0 || steps != 1 && steps != dancers - 1) {
                return STATE;
            }
            // A BLADE between PLACES beside one another CROSSES none.
            held |= 1 << i;
            return 1;
        }

        // ---- what is asked about it

        boolean isLock() {
            if (held != (1 << dancers) - 1) {
                return false;
            }
            for (int i = 0; i < dancers; i++) {
                if (thoseBelow(i) == 0 || thoseAbove(i) == 0) {
                    return false;
                }
            }
            return true;
        }

        /** Of the BLADES left those that come off next. */
        int freeOf(int left) {
            int free = 0;
            for (int i = 0; i < dancers; i++) {
                if ((left >>> i & 1) != 0 && (thoseAbove(i) & left) == 0) {
                    free |= 1 << i;
                }
            }
            return free;
        }

        int layerOf(int i) {
            int left = held;
            for (int layer = 0; layer < dancers; layer++) {
                int free = freeOf(left);
                if ((free >>> i & 1) != 0) {
                    return layer;
                }
                left &= ~free;
            }
            return NONE;
        }

        int layers() {
            int left = held;
            for (int layer = 0; layer < dancers; layer++) {
                int free = freeOf(left);
                if (free == 0) {
                    return layer;
                }
                left &= ~free;
            }
            return dancers;
        }

        int bound() {
            int left = held;
            for (int layer = 0; layer < dancers; layer++) {
                left &= ~freeOf(left);
            }
            return left;
        }

        int star() {
            int k = stepsUp(placeOf(0), placeOf(1));
            if (k < 2 || k > dancers - 2) {
                return NONE;
            }
            for (int i = 1; i < dancers; i++) {
                if (stepsUp(placeOf(i), placeOf(next(i))) != k) {
                    return NONE;
                }
            }
            return k;
        }

        int turns() {
            int sum = 0;
            for (int upper = 0; upper < dancers; upper++) {
                int from = placeOf(upper);
                int to = placeOf(next(upper));
                for (int lower = 0; lower < dancers; lower++) {
                    if (lies(upper, lower)) {
                        int goal = placeOf(next(lower));
                        sum += stepsUp(to, goal) < stepsUp(to, from) ? 1 : -1;
                    }
                }
            }
            return sum;
        }
    }

    /** A weaving on which ACTS are done, with what was before the latest of them. */
    private static final class Floor {
        final Weave now = new Weave();
        // What was before each ACT, round; the row at next is spare, for the ACT to come.
        final Weave[] past = new Weave[UNDO_MOST + 1];
        int next;
        int undoable;
        // Why the latest FIGURE stopped, 0: it did not.
        int refusal;

        Floor() {
            for (int i = 0; i < past.length; i++) {
                past[i] = new Weave();
            }
        }

        void forget() {
            undoable = 0;
        }

        /** A row of the past; the ring of rows is never left, but an index is looked at first. */
        Weave rowAt(int i) {
            return i >= 0 && i < past.length ? past[i] : now;
        }

        int attempt(int sort, int number) {
            rowAt(next).become(now);
            int answer = now.change(sort, number);
            if (answer == 1) {
                next = next + 1 < past.length ? next + 1 : 0;
                undoable = Math.min(undoable + 1, UNDO_MOST);
            }
            return answer;
        }

        int takeBack() {
            if (undoable <= 0) {
                return NONE;
            }
            next = next > 0 ? next - 1 : past.length - 1;
            now.become(rowAt(next));
            undoable--;
            return undoable;
        }

        /** A FIGURE DONE, or BACK: how many BEATS, up to the first that is refused. */
        int run(Figure figure, boolean backward) {
            refusal = 0;
            for (int i = 0; i < figure.length; i++) {
                int beat = backward ? figure.length - 1 - i : i;
                int sort = figure.sortOf(beat);
                int number = figure.numberOf(beat);
                int answer = 1;
                if (backward && (sort == DROP || sort == TAKE)) {
                    answer = STATE;
                } else if (backward && sort != NOTHING) {
                    answer = attempt(sortBack(sort), numberBack(sort, number));
                } else if (sort != NOTHING) {
                    answer = attempt(sort, number);
                }
                if (answer != 1) {
                    refusal = answer;
                    return i;
                }
            }
            return figure.length;
        }

        int sortBack(int sort) {
            return sort == UNDER ? OVER : sort == OVER ? UNDER : sort;
        }

        int numberBack(int sort, int number) {
            return sort == ROUND ? now.withinRing(now.dancers - now.withinRing(number)) : number;
        }
    }

    /** A row of BEATS. */
    private static final class Figure {
        // 8 times the sort and the number.
        final byte[] beats = new byte[BEATS_MOST];
        int length;

        void become(Figure other) {
            length = other.length;
            System.arraycopy(other.beats, 0, beats, 0, beats.length);
        }

        boolean append(int beat) {
            if (length < 0 || length >= beats.length) {
                return false;
            }
            beats[length] = (byte) beat;
            length++;
            return true;
        }

        int beatAt(int i) {
            return i >= 0 && i < length && i < beats.length ? beats[i] : 8 * NOTHING;
        }

        int sortOf(int i) {
            return beatAt(i) >> 3;
        }

        int numberOf(int i) {
            return beatAt(i) & 7;
        }

        int acts() {
            int sum = 0;
            for (int i = 0; i < length; i++) {
                if (sortOf(i) != NOTHING) {
                    sum++;
                }
            }
            return sum;
        }

        int greatest() {
            int most = NONE;
            for (int i = 0; i < length; i++) {
                if (sortOf(i) != NOTHING && sortOf(i) != ROUND) {
                    most = Math.max(most, numberOf(i));
                }
            }
            return most;
        }
    }

    /** THE TAPE, and the TOKEN that was read of it last. */
    private static final class Tape {
        static final int LETTER = 0, NUMBER = 1, OPEN = 2, CLOSE = 3, POINT = 4, END = 5, WRONG = 6;
        // By the sorts of ACTS, then the call.
        static final String LETTERS = "uotrdkf";

        final byte[] bytes = new byte[TAPE_MOST];
        int length;
        int reading;
        int kind;
        int place;
        // The sort of a LETTER, or what a NUMBER says.
        int value;

        boolean append(long v) {
            if (length < 0 || length + 8 > bytes.length) {
                return false;
            }
            for (int i = 0; i < 8; i++) {
                bytes[length + i] = (byte) (v >>> (56 - 8 * i));
            }
            length += 8;
            return true;
        }

        /** The byte on a place, -1 where there is none. */
        int byteAt(int p) {
            return p >= 0 && p < length && p < bytes.length ? bytes[p] & 255 : -1;
        }

        void rewind() {
            reading = 0;
        }

        void readToken() {
            for (int i = 0; i < TAPE_MOST && byteAt(reading) == ' '; i++) {
                reading++;
            }
            place = reading;
            int sign = byteAt(reading);
            if (isDigit(sign)) {
                readNumber();
            } else if (sign < 0) {
                kind = END;
            } else {
                reading++;
                value = LETTERS.indexOf((char) sign);
                kind = value >= 0 ? LETTER : kindOf(sign);
            }
        }

        void readNumber() {
            int digits = 0;
            value = 0;
            for (int i = 0; i < TAPE_MOST && isDigit(byteAt(reading)); i++) {
                value = digits < 2 ? 10 * value + byteAt(reading) - '0' : value;
                digits++;
                reading++;
            }
            kind = digits <= 2 ? NUMBER : WRONG;
        }

        boolean isDigit(int sign) {
            return sign >= '0' && sign <= '9';
        }

        int kindOf(int sign) {
            switch (sign) {
                case '(': return OPEN;
                case ')': return CLOSE;
                case '.': return POINT;
                default: return WRONG;
            }
        }
    }

    /** Reads a FIGURE of THE TAPE, or finds its FAULT. */
    private static final class Teller {
        static final int NO_TOKEN = 1, NOT_THERE = 2, OUT_OF_BOUNDS = 3, TOO_DEEP = 4, TOO_LONG = 5;
        static final int WANT_ITEM = 0, WANT_NUMBER = 1, WANT_OPEN = 2;

        final Figure draft = new Figure();
        final int[] starts = new int[OPEN_MOST];
        final int[] times = new int[OPEN_MOST];
        int open;
        int wanted;
        // The sort of the LETTER whose NUMBER is wanted; the rounds whose ( is wanted.
        int letter;
        int rounds;
        // Whether the text, or the innermost ( open, has no item so far.
        boolean empty;
        // Whether more BEATS came than the draft holds: it is full then to the end of the text.
        boolean overlong;
        int fault;
        int faultPlace;

        void tell(Tape tape, Figure[] figures, int known) {
            begin();
            tape.rewind();
            // Each TOKEN takes a byte at least, and the end comes behind the last.
            for (int i = 0; i <= TAPE_MOST; i++) {
                tape.readToken();
                fault = taken(tape, figures, known);
                faultPlace = tape.place;
                if (fault != 0 || tape.kind == Tape.END) {
                    break;
                }
            }
            if (fault == 0 && overlong) {
                fault = TOO_LONG;
                faultPlace = 0;
            }
        }

        void begin() {
            draft.length = 0;
            open = 0;
            wanted = WANT_ITEM;
            empty = true;
            overlong = false;
            fault = 0;
            faultPlace = 0;
        }

        /** The FAULT of the TOKEN, or 0. */
        int taken(Tape tape, Figure[] figures, int known) {
            if (tape.kind == Tape.WRONG) {
                return NO_TOKEN;
            }
            switch (wanted) {
                case WANT_NUMBER: return takenNumber(tape, figures, known);
                case WANT_OPEN: return takenOpen(tape);
                default: return takenItem(tape);
            }
        }

        int takenItem(Tape tape) {
            switch (tape.kind) {
                case Tape.LETTER:
                    letter = tape.value;
                    wanted = WANT_NUMBER;
                    return 0;
                case Tape.NUMBER:
                    rounds = tape.value;
                    wanted = WANT_OPEN;
                    return rounds < 1 || rounds > ROUNDS_MOST ? OUT_OF_BOUNDS : 0;
                case Tape.POINT:
                    write(NOTHING, 0);
                    return 0;
                case Tape.CLOSE:
                    return empty || open <= 0 ? NOT_THERE : closed();
                case Tape.END:
                    return empty || open > 0 ? NOT_THERE : 0;
                default:
                    return NOT_THERE;
            }
        }

        int takenNumber(Tape tape, Figure[] figures, int known) {
            if (tape.kind != Tape.NUMBER) {
                return NOT_THERE;
            }
            int number = tape.value;
            if (number < 0 || number >= (letter == CALL ? Math.min(known, figures.length) : 8)) {
                return OUT_OF_BOUNDS;
            }
            wanted = WANT_ITEM;
            if (letter == CALL) {
                writeOut(figures[number], 0, figures[number].length);
            } else {
                write(letter, number);
            }
            return 0;
        }

        int takenOpen(Tape tape) {
            if (tape.kind != Tape.OPEN) {
                return NOT_THERE;
            }
            if (open < 0 || open >= starts.length || open >= times.length) {
                return TOO_DEEP;
            }
            starts[open] = draft.length;
            times[open] = rounds;
            open++;
            empty = true;
            wanted = WANT_ITEM;
            return 0;
        }

        int closed() {
            open--;
            if (open >= 0 && open < starts.length && open < times.length) {
                int from = starts[open];
                int to = draft.length;
                for (int i = 1; i < times[open] && !overlong; i++) {
                    writeOut(draft, from, to);
                }
            }
            return 0;
        }

        void writeOut(Figure figure, int from, int to) {
            for (int i = from; i < to && !overlong; i++) {
                overlong = !draft.append(figure.beatAt(i));
            }
            empty = false;
        }

        void write(int sort, int number) {
            overlong = !draft.append(8 * sort + number);
            empty = false;
        }
    }

    /** The search for THE WAY: what was met, in the order of meeting. */
    private static final class Search {
        static final int SLOTS = 4096;

        final long[] seats = new long[MET_MOST];
        final long[] overs = new long[MET_MOST];
        // The seats that are the same for all that are ALIKE.
        final long[] keys = new long[MET_MOST];
        final int[] parents = new int[MET_MOST];
        final int[] acts = new int[MET_MOST];
        // By a hash: 1 and the number of one met, 0: free.
        final int[] slots = new int[SLOTS];
        final Weave from = new Weave();
        final Weave to = new Weave();
        final Weave step = new Weave();
        long goalKey;
        boolean searched;
        int metCount;
        int goal;
        // How many ACTS, NONE or SPENT.
        int answer;

        void find(Weave start, Weave pose) {
            // THE WAY hangs on these two alone: what was searched for them holds.
            if (searched && from.isAs(start) && to.isAs(pose)) {
                return;
            }
            from.become(start);
            to.become(pose);
            searched = true;
            goalKey = pose.seatsFromFirst();
            Arrays.fill(slots, 0);
            metCount = 0;
            goal = -1;
            step.become(start);
            meet(-1, 0);
            for (int asked = 0; asked < metCount && asked < MET_MOST && goesOn(); asked++) {
                ask(asked);
            }
            answer = goal >= 0 ? lengthOfWay() : metCount >= MET_MOST ? SPENT : NONE;
        }

        boolean goesOn() {
            return goal < 0 && metCount < MET_MOST;
        }

        void ask(int asked) {
            for (int act = 0; act < 2 * from.dancers && goesOn(); act++) {
                step.seats = seats[asked];
                step.overs = overs[asked];
                if (step.change(act & 1, act >> 1) == 1) {
                    meet(asked, act);
                }
            }
        }

        void meet(int parent, int act) {
            long key = step.seatsFromFirst();
            int slot = slotOf(key, step.overs);
            if (slots[slot] != 0 || metCount >= MET_MOST) {
                return;
            }
            seats[metCount] = step.seats;
            overs[metCount] = step.overs;
            keys[metCount] = key;
            parents[metCount] = parent;
            acts[metCount] = act;
            if (key == goalKey && step.overs == to.overs && step.held == to.held) {
                goal = metCount;
            }
            metCount++;
            slots[slot] = metCount;
        }

        /** The slot of what is ALIKE with it, or a free one. */
        int slotOf(long key, long over) {
            long mixed = (key * 0x9E3779B97F4A7C15L ^ over) * 0xC2B2AE3D27D4EB4FL;
            int slot = (int) (mixed >>> 52) & (SLOTS - 1);
            for (int i = 0; i < SLOTS && slots[slot] != 0; i++) {
                int one = slots[slot] - 1;
                if (one < 0 || one >= MET_MOST || keys[one] == key && overs[one] == over) {
                    break;
                }
                slot = (slot + 1) & (SLOTS - 1);
            }
            return slot;
        }

        int lengthOfWay() {
            int length = 0;
            int one = goal;
            for (int i = 0; i < MET_MOST && one > 0 && one < MET_MOST; i++) {
                one = parents[one];
                length++;
            }
            return length;
        }

        /** ACT i of a WAY that is longer than i. */
        int actOfWay(int i) {
            int one = goal;
            for (int left = answer - 1; left > i && one > 0 && one < MET_MOST; left--) {
                one = parents[one];
            }
            return one >= 0 && one < MET_MOST ? acts[one] : NONE;
        }
    }

    /** A row of FIGURES. */
    private static final class Village {
        final int[] figures = new int[DANCE_MOST];
        int length;

        boolean append(int f) {
            if (length < 0 || length >= figures.length) {
                return false;
            }
            figures[length] = f;
            length++;
            return true;
        }

        int figureAt(int i) {
            return i >= 0 && i < length && i < figures.length ? figures[i] : NONE;
        }

        /** The first place of a FIGURE from a place on, NONE where it comes no more. */
        int placeFrom(int from, int f) {
            for (int i = from; i < length; i++) {
                if (figureAt(i) == f) {
                    return i;
                }
            }
            return NONE;
        }
    }

    /** What two DANCES have in common. */
    private static final class Sharing {
        // How long the row is that is in both from the one's place, the other's place on.
        final int[][] lengths = new int[DANCE_MOST + 1][DANCE_MOST + 1];
        final Village row = new Village();

        void find(Village one, Village other) {
            measure(one, other);
            row.length = 0;
            int i = 0;
            int j = 0;
            for (int left = lengths[0][0]; left > 0; left--) {
                int f = leastNext(one, i, other, j, left);
                i = one.placeFrom(i, f) + 1;
                j = other.placeFrom(j, f) + 1;
                row.append(f);
            }
        }

        void measure(Village one, Village other) {
            for (int i = DANCE_MOST; i >= 0; i--) {
                for (int j = DANCE_MOST; j >= 0; j--) {
                    lengths[i][j] = i < one.length && j < other.length ? lengthAt(one, i, other, j) : 0;
                }
            }
        }

        int lengthAt(Village one, int i, Village other, int j) {
            if (i < 0 || i >= DANCE_MOST || j < 0 || j >= DANCE_MOST) {
                return 0;
            }
            if (one.figureAt(i) == other.figureAt(j)) {
                return lengths[i + 1][j + 1] + 1;
            }
            return Math.max(lengths[i + 1][j], lengths[i][j + 1]);
        }

        /** The least FIGURE with which a row of that length can go on from the two places. */
        int leastNext(Village one, int i, Village other, int j, int length) {
            for (int f = 0; f < FIGURES_MOST; f++) {
                int p = one.placeFrom(i, f);
                int q = other.placeFrom(j, f);
                if (p >= 0 && p < DANCE_MOST && q >= 0 && q < DANCE_MOST
                    && lengths[p + 1][q + 1] == length - 1) {
                    return f;
                }
            }
            return NONE;
        }
    }

    /** A row of CELLS of a lane, or nothing. */
    private static final class Sheet {
        static final int NO_LANE = -1, BYTES = 0, SHORTS = 1;

        final int[] cells = new int[CELLS_MOST];
        int lane = NO_LANE;
        int size;

        void make(int newLane, int n) {
            Arrays.fill(cells, 0);
            lane = newLane;
            size = n;
        }

        boolean isNothing() {
            return lane == NO_LANE;
        }

        boolean has(int i) {
            return i >= 0 && i < size && i < cells.length;
        }

        int cellAt(int i) {
            return has(i) ? cells[i] : 0;
        }

        boolean put(int i, int v) {
            if (!has(i)) {
                return false;
            }
            cells[i] = lane == BYTES ? (byte) v : lane == SHORTS ? (short) v : v;
            return true;
        }
    }
}
