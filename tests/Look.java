/**
 * What an object tells of itself, as a text, so that two objects can be held side by side. Each sight is for
 * an object of its own: some of them use it up (undo all, read THE TAPE, stand in each POSE).
 */
final class Look {
    interface Sight {
        String of(BladeRing x);
    }

    static final String[] NAMES = {"weaving", "undos", "tape", "figures", "poses", "villages", "sheets"};
    static final Sight[] SIGHTS = {Look::weaving, Look::undos, Look::tape, Look::figures, Look::poses,
        Look::villages, Look::sheets};
    private static final int BEATS_SEEN = 12, CELLS_SEEN = 12;

    private final StringBuilder text = new StringBuilder();

    private Look() {
    }

    private Look add(int answer) {
        text.append(answer).append(' ');
        return this;
    }

    /** At most 124 calls. */
    static String weaving(BladeRing x) {
        Look look = new Look();
        int n = x.about(0);
        for (int what = 0; what < 10; what++) {
            look.add(x.about(what));
        }
        look.add(x.can(0)).add(x.can(1));
        for (int i = 0; i < n; i++) {
            look.add(x.place(i, 0)).add(x.place(i, 1));
            for (int what = 0; what < 5; what++) {
                look.add(x.blade(i, what));
            }
            for (int j = 0; j < n; j++) {
                look.add(i == j ? 0 : x.over(i, j));
            }
        }
        return look.text.toString();
    }

    /** PLACES, CROSSINGS, TURNS, who faces IN, HELD BLADES: at most 13 calls. */
    static String brief(BladeRing x) {
        Look look = new Look();
        int n = x.about(0);
        for (int p = 0; p < n; p++) {
            look.add(x.place(p, 0));
        }
        return look.add(x.about(1)).add(x.about(6)).add(x.about(7)).add(x.about(8)).text.toString();
    }

    /** At most 300 calls. */
    static String undos(BladeRing x) {
        Look look = new Look();
        int left = x.about(9);
        look.add(left);
        for (int i = 0; i <= 12 && left != -4; i++) {
            left = x.undo();
            look.add(left);
            look.text.append(brief(x));
        }
        look.text.append(weaving(x));
        return look.text.toString();
    }

    static String tape(BladeRing x) {
        Look look = new Look();
        look.add(x.count(3));
        int f = x.figure();
        look.add(f).add(x.fault()).add(x.count(3));
        look.told(x, f);
        return look.text.toString();
    }

    private void told(BladeRing x, int f) {
        int beats = x.told(f, 0);
        add(beats).add(x.told(f, 1)).add(x.told(f, 2));
        for (int i = 0; i < Math.min(beats, BEATS_SEEN); i++) {
            add(x.told(f, 10 + i)).add(x.told(f, 300 + i));
        }
    }

    /** At most 220 calls. */
    static String figures(BladeRing x) {
        Look look = new Look();
        int figures = x.count(0);
        look.add(figures).add(x.fault()).add(x.why());
        for (int f = 0; f < figures; f++) {
            look.told(x, f);
        }
        return look.text.toString();
    }

    /** At most 110 calls. */
    static String poses(BladeRing x) {
        Look look = new Look();
        int poses = x.count(1);
        look.add(poses);
        for (int k = 0; k < poses; k++) {
            look.add(x.alike(k)).add(x.way(k)).add(x.met(k));
        }
        for (int k = 0; k < poses; k++) {
            look.add(x.stand(k));
            look.text.append(brief(x));
        }
        return look.text.toString();
    }

    /** At most 100 calls. */
    static String villages(BladeRing x) {
        Look look = new Look();
        int villages = x.count(2);
        look.add(villages);
        for (int v = 0; v < villages; v++) {
            int length = x.danceOf(v, 0);
            look.add(length).add(x.danceOf(v, 1));
            for (int i = 0; i < length; i++) {
                look.add(x.danceOf(v, 10 + i));
            }
            for (int w = 0; w < villages; w++) {
                look.add(x.shared(v, w, -4));
            }
        }
        return look.text.toString();
    }

    /** Reads the SHEETS by doing what stands in them on a ring of 8: at most 150 calls. */
    static String sheets(BladeRing x) {
        Look look = new Look();
        look.add(x.count(4));
        for (int k = 0; k < 4; k++) {
            int lane = 0;
            for (int tried = 0; tried < 3; tried++) {
                int answer = x.scan(k, tried, 0, 0);
                look.add(answer);
                lane = answer == 0 ? tried : lane;
            }
            x.ring(8);
            for (int cell = 0; cell < CELLS_SEEN; cell++) {
                look.add(x.scan(k, lane, cell, 1));
            }
            look.add(x.lay(k, 5, 0)).add(x.lay(k, 6, 0)).add(x.lay(k, 59, 0)).add(x.lay(k, 60, 0));
            look.text.append(brief(x));
        }
        return look.text.toString();
    }
}
