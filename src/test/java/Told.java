/** Tells all that a house is, to compare two of them; no test of its own. What it asks changes the house. */
final class Told {
    private final HourEggs x;
    private final StringBuilder told = new StringBuilder();

    private Told(HourEggs x) {
        this.x = x;
    }

    /** All but status(); SHEETS only as far as their numbers are 0 to 999. */
    static String of(HourEggs x) {
        Told t = new Told(x);
        t.house("at first");
        t.sheets();
        t.add("text", x.text());
        t.house("behind its text");
        t.add("undo", x.undo());
        t.house("its image");
        t.emptyPlaces();
        return t.told.toString();
    }

    static int[] statuses(HourEggs x) {
        int[] statuses = new int[7];
        for (int which = 0; which < 7; which++) {
            statuses[which] = x.status(which);
        }
        return statuses;
    }

    private void add(String name, long v) {
        told.append(name).append(' ').append(v).append('\n');
    }

    private void house(String name) {
        told.append("-- ").append(name).append('\n');
        for (int what = 0; what < 8; what++) {
            add("count " + what, x.count(what));
            add("now " + what, x.now(what));
        }
        for (int row = 0; row < 8; row++) {
            for (int what = 0; what < 6; what++) {
                add("egg " + row + " " + what, x.of(row, what));
                add("hen " + row + " " + what, x.henOf(row, what));
                add("work " + row + " " + what, x.workOf(row, what));
            }
        }
        spots();
    }

    private void spots() {
        for (int spot = 0; spot < 10; spot++) {
            add("spot " + spot, x.as(spot, 0));
        }
    }

    /** SPOTS that hold an empty PLACE are told apart when there is something in it. */
    private void emptyPlaces() {
        while (x.egg(0, 1, 0) >= 0) {
            continue;
        }
        spots();
    }

    private void sheets() {
        for (int s = 0; s < 4; s++) {
            for (int t = 0; t < 4; t++) {
                add("as many bits " + s + " " + t, x.copy(s, 0, t, 0, 0));
            }
        }
        for (int s = 0; s < 4; s++) {
            add("begins", x.copy(s, 0, s, 0, 1));
            for (int i = 0; x.copy(s, i, s, 0, 1) == 1; i++) {
                number(i);
                add("loads", x.load(s));
                number(x.workOf(0, 0));
            }
            // Of 8 bits 1290 is 10, of 16 bits 65540 is 4, of 32 bits both are too great.
            for (int v : new int[] {1290, 65540}) {
                add("bits", x.write(s, 0, v));
                add("loads", x.load(s));
                number(x.workOf(0, 0));
            }
        }
    }

    private void number(int v) {
        add("number", v);
    }
}
