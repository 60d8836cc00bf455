/** Promises 38 to 44: spots, sheets. */
public final class SheetsTest {
    private static final Due due = new Due();
    private static final int FAR = Integer.MAX_VALUE;

    public static void main(String[] args) {
        spots();
        kinds();
        sheet();
        write();
        copy();
        copyWithin();
        load();
        judge();
        due.end("SheetsTest");
    }

    private static void spots() {
        HourEggs x = new HourEggs();
        x.egg(0, 5, 0);
        due.is("38 hold", x.hold(9, 0), 1);
        due.is("39 its PLACE", x.as(9, 0), 0);
        due.is("39 nothing", x.as(8, 0), Due.MISSING);
        due.is("38 an empty PLACE", x.hold(0, 7), 1);
        due.is("39 it is empty", x.as(0, 0), Due.MISSING);
        due.is("48 two hold", x.count(7), 2);
        for (int i = 0; i < 7; i++) {
            x.egg(1, 5, 0);
        }
        due.is("39 no longer empty", x.as(0, 1), 7);
        x.broken(7);
        due.is("39 empty again", x.as(0, 1), Due.MISSING);
        due.is("38 nothing", x.hold(9, -1), 1);
        due.is("39 nothing", x.as(9, 0), Due.MISSING);
        due.is("48 one holds", x.count(7), 1);
        due.is("38 spot 10", x.hold(10, 0), Due.BEYOND);
        due.is("38 spot -1", x.hold(-1, 0), Due.BEYOND);
        due.is("38 place 8", x.hold(0, 8), Due.BEYOND);
        due.is("38 place -2", x.hold(0, -2), Due.BEYOND);
        due.is("39 spot 10", x.as(10, 0), Due.BEYOND);
        due.is("39 spot -1", x.as(-1, 0), Due.BEYOND);
        due.is("39 kind 7", x.as(0, 7), Due.BEYOND);
        due.is("39 kind -1", x.as(0, -1), Due.BEYOND);
    }

    private static void kinds() {
        // Of each KIND the kinds as which it can be told, as a set.
        int[] under = {1, 1 + 2, 1 + 4, 1 + 4 + 8, 1 + 4 + 8 + 16, 1 + 32, 1 + 2 + 64};
        HourEggs x = new HourEggs();
        for (int kind = 0; kind < 7; kind++) {
            x.egg(kind, 5, 0);
            x.hold(kind, kind);
            for (int as = 0; as < 7; as++) {
                due.is("39 " + kind + " as " + as, x.as(kind, as), (under[kind] >> as & 1) == 1 ? kind : Due.KIND);
            }
        }
    }

    private static void sheet() {
        HourEggs x = new HourEggs();
        due.is("40 s -1", x.sheet(-1, 8, 1), Due.BEYOND);
        due.is("40 s 4", x.sheet(4, 8, 1), Due.BEYOND);
        for (int bits : new int[] {-8, 1, 7, 9, 15, 24, 31, 33, 64}) {
            due.is("40 bits " + bits, x.sheet(0, bits, 1), Due.BEYOND);
        }
        due.is("40 BEYOND is asked before SIZE", x.sheet(0, 9, -1), Due.BEYOND);
        due.is("40 n -1", x.sheet(0, 8, -1), Due.SIZE);
        due.is("40 n -1 with bits 0", x.sheet(0, 0, -1), Due.SIZE);
        due.is("40 n 41", x.sheet(0, 8, 41), Due.BEYOND);
        due.is("40 n 41 with bits 0", x.sheet(0, 0, 41), Due.BEYOND);
        due.is("40 still MISSING", x.load(0), Due.MISSING);
        due.is("40 n 40", x.sheet(0, 8, 40), 40);
        due.is("40 its last", x.write(0, 39, 1), 1);
        due.is("40 MISSING", x.sheet(0, 0, 5), 0);
        due.is("40 MISSING", x.write(0, 0, 1), Due.MISSING);
        due.is("40 n 0", x.sheet(0, 32, 0), 0);
        due.is("40 not MISSING", x.load(0), 0);
        Due.sheet(x, 1, 7, 8, 9);
        x.sheet(1, 32, 3);
        x.load(1);
        due.is("40 all 0", x.workOf(0, 0) + x.workOf(1, 0) + x.workOf(2, 0), 0);
    }

    private static void write() {
        HourEggs x = new HourEggs();
        due.is("41 s 4", x.write(4, 0, 0), Due.BEYOND);
        due.is("41 s -1", x.write(-1, 0, 0), Due.BEYOND);
        due.is("41 MISSING is asked before the number", x.write(0, -1, 0), Due.MISSING);
        x.sheet(0, 8, 2);
        due.is("41 i -1", x.write(0, -1, 0), Due.BEYOND);
        due.is("41 i 2", x.write(0, 2, 0), Due.BEYOND);
        // load() takes 0 to 999 only: so it tells what a number is.
        due.is("41 127", x.write(0, 0, 127), 1);
        due.is("41 127 stays", x.load(0), 2);
        due.is("41 127 stays", x.workOf(0, 0), 127);
        x.write(0, 0, 128);
        due.is("41 128 is below 0", x.load(0), 0);
        x.write(0, 0, 256 + 5);
        x.load(0);
        due.is("41 its lowest 8 bits", x.workOf(0, 0), 5);
        x.write(0, 0, -251);
        x.load(0);
        due.is("41 its lowest 8 bits, below 0", x.workOf(0, 0), 5);
        x.sheet(0, 16, 1);
        x.write(0, 0, 65536 * 3 + 700);
        x.load(0);
        due.is("41 its lowest 16 bits", x.workOf(0, 0), 700);
        x.write(0, 0, 32768);
        due.is("41 32768 is below 0", x.load(0), 0);
        x.sheet(0, 32, 1);
        x.write(0, 0, 65536 + 700);
        due.is("41 32 bits", x.load(0), 0);
    }

    private static long needs(HourEggs x, int s) {
        x.load(s);
        long all = 0;
        for (int w = 5; w >= 0; w--) {
            all = all * 10 + x.workOf(w, 0);
        }
        return all;
    }

    private static void copy() {
        HourEggs x = new HourEggs();
        due.is("42 s 4", x.copy(4, 0, 0, 0, 0), Due.BEYOND);
        due.is("42 t 4", x.copy(0, 0, 4, 0, 0), Due.BEYOND);
        due.is("42 s -1", x.copy(-1, 0, 0, 0, 0), Due.BEYOND);
        due.is("42 t -1", x.copy(0, 0, -1, 0, 0), Due.BEYOND);
        Due.sheet(x, 0, 1, 2, 3, 4, 5, 6);
        due.is("42 t MISSING", x.copy(0, 0, 1, 0, -1), Due.MISSING);
        due.is("42 s MISSING", x.copy(1, 0, 0, 0, -1), Due.MISSING);
        x.sheet(1, 16, 6);
        due.is("42 KIND", x.copy(0, 0, 1, 0, -1), Due.KIND);
        Due.sheet(x, 1, 9, 9, 9, 9, 9);
        due.is("42 from -1", x.copy(0, -1, 1, 0, 1), Due.BEYOND);
        due.is("42 to -1", x.copy(0, 0, 1, -1, 1), Due.BEYOND);
        due.is("42 n -1", x.copy(0, 0, 1, 0, -1), Due.BEYOND);
        due.is("42 s has not so many", x.copy(0, 6, 1, 0, 1), Due.BEYOND);
        due.is("42 t has not so many", x.copy(0, 0, 1, 0, 6), Due.BEYOND);
        due.is("42 t has not so many", x.copy(0, 0, 1, 3, 3), Due.BEYOND);
        due.is("42 far", x.copy(0, 1, 1, 1, FAR), Due.BEYOND);
        due.is("42 far", x.copy(0, FAR, 1, FAR, FAR), Due.BEYOND);
        due.is("42 from 7, none", x.copy(0, 7, 1, 0, 0), Due.BEYOND);
        due.is("42 none", x.copy(0, 6, 1, 5, 0), 0);
        due.is("nothing came", needs(x, 1), 99999);
        due.is("42 three", x.copy(0, 3, 1, 1, 3), 3);
        due.is("three came", needs(x, 1), 96549);
    }

    private static void copyWithin() {
        HourEggs x = new HourEggs();
        Due.sheet(x, 0, 1, 2, 3, 4, 5, 6);
        due.is("42 up", x.copy(0, 0, 0, 2, 4), 4);
        due.is("as they all were", needs(x, 0), 432121);
        Due.sheet(x, 0, 1, 2, 3, 4, 5, 6);
        due.is("42 down", x.copy(0, 2, 0, 0, 4), 4);
        due.is("as they all were", needs(x, 0), 656543);
        due.is("42 itself", x.copy(0, 0, 0, 0, 6), 6);
        due.is("as it was", needs(x, 0), 656543);
    }

    private static void load() {
        HourEggs x = new HourEggs();
        due.is("43 s 4", x.load(4), Due.BEYOND);
        due.is("43 s -1", x.load(-1), Due.BEYOND);
        due.is("43 MISSING", x.load(3), Due.MISSING);
        Due.sheet(x, 3, 0, 999, 5, 1000, 7);
        x.work(0, 0, 50);
        x.work(3, 0, 51);
        x.work(4, 0, 52);
        due.is("43 to 1000", x.load(3), 3);
        due.is("43 0", x.workOf(0, 0), 0);
        due.is("43 999", x.workOf(1, 0), 999);
        due.is("43 5", x.workOf(2, 0), 5);
        due.is("43 it ended", x.workOf(3, 0), 51);
        due.is("43 it ended", x.workOf(4, 0), 52);
        Due.sheet(x, 3, 1, -1);
        due.is("43 to -1", x.load(3), 1);
        Due.sheet(x, 3, 1, 2, 3, 4, 5, 6, 7);
        due.is("43 no such WORK", x.load(3), 6);
    }

    private static void judge() {
        HourEggs x = new HourEggs();
        due.is("44 s 4", x.judge(4), Due.BEYOND);
        due.is("44 s -1", x.judge(-1), Due.BEYOND);
        due.is("44 MISSING", x.judge(0), Due.MISSING);
        x.egg(0, 30, 0);
        x.egg(0, 20, 0);
        x.egg(0, 20, 0);
        x.egg(4, 30, 0);
        x.egg(0, 50, 0);
        x.egg(0, 40, 0);
        int[][] sheets = {
            {}, {0}, {3}, {0, 1, 2, 3}, {0, 2, 1, 3}, {1, 0}, {3, 1}, {0, 0}, {0, 1, 0}, {1, 2, 1},
            {6}, {-1}, {8}, {0, 1, 7}, {4, 5, 0}, {5, 4}, {FAR}, {0, Integer.MIN_VALUE}, {0, 32}, {0, 3, 2},
        };
        int[] dues = {0, 0, 0, 0, 0, 2, 2, 2, 3, 3, 1, 1, 1, 3, 0, 2, 1, 2, 2, 3};
        for (int i = 0; i < sheets.length; i++) {
            Due.sheet(x, 0, sheets[i]);
            due.is("44 sheet " + i, x.judge(0), dues[i]);
        }
    }
}
