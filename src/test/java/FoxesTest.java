/** Promises 32 to 34: foxes, odds, seed. */
public final class FoxesTest {
    private static final Due due = new Due();

    public static void main(String[] args) {
        foxes();
        days();
        odds();
        seed();
        due.end("FoxesTest");
    }

    private static int next(int z) {
        return z * 1103515245 + 12345;
    }

    private static void foxes() {
        HourEggs x = new HourEggs();
        due.is("32 n 0", x.foxes(0), Due.BEYOND);
        due.is("32 n 21", x.foxes(21), Due.BEYOND);
        due.is("32 n -1", x.foxes(-1), Due.BEYOND);
        due.is("z is as it was", x.count(6), 1);
        int z = 1;
        for (int i = 0; i < 40; i++) {
            int seed = i * 123456789 - 77;
            HourEggs y = new HourEggs();
            for (int nest = 0; nest < 4; nest++) {
                y.egg(0, 50, nest);
                y.egg(2, 50, nest);
            }
            y.seed(seed);
            int nest = (next(seed) >>> 8) % 4;
            due.is("32 two are taken, z " + seed, y.foxes(1), 2);
            due.is("32 the others are there", y.now(1), 255 - (3 << (2 * nest)));
            due.is("z then", y.count(6), next(seed));
            due.is("a DAY", y.count(0), 1);
            due.is("none SPOILED", y.now(4), 0);
            z = next(z);
        }
        x.egg(2, 50, 0);
        due.is("32 n 20", x.foxes(20) >= 0 ? 1 : 0, 1);
        int last = 1;
        for (int i = 0; i < 20; i++) {
            last = next(last);
        }
        due.is("z behind 20", x.count(6), last);
        due.is("DAYS behind 20", x.count(0), 20);
    }

    private static void days() {
        // The draw comes first, then the DAY: what is laid on it is there for the next fox.
        HourEggs x = new HourEggs();
        x.hen(0, 0, 1);
        int z = 1;
        int eggs = 0;
        int taken = 0;
        for (int i = 0; i < 10; i++) {
            z = next(z);
            if ((z >>> 8) % 4 == 0) {
                taken += eggs;
                eggs = 0;
            }
            eggs = Math.min(eggs + 1, 8);
        }
        due.is("32 taken", x.foxes(10), taken);
        due.is("32 there", x.count(1), eggs);
        HourEggs wind = new HourEggs();
        wind.egg(5, 9, 1);
        wind.change(0, 2, 5);
        wind.seed(seedFor(2));
        due.is("32 those that spoil are not taken", wind.foxes(1), 0);
        due.is("SPOILED", wind.count(3), 1);
        wind.egg(5, 9, 2);
        wind.change(0, 2, 5);
        wind.seed(seedFor(2));
        due.is("32 taken, not spoiled", wind.foxes(1), 1);
        due.is("SPOILED", wind.count(3), 1);
    }

    private static int seedFor(int nest) {
        int seed = 0;
        while ((next(seed) >>> 8) % 4 != nest) {
            seed++;
        }
        return seed;
    }

    private static void odds() {
        HourEggs x = new HourEggs();
        long above = 1;
        long below = 1;
        for (int n = 0; n <= 20; n++) {
            due.is("33 above " + n, x.odds(n, 0), above);
            due.is("33 below " + n, x.odds(n, 1), below);
            above *= 3;
            below *= 4;
        }
        due.is("33 n -1", x.odds(-1, 0), Due.BEYOND);
        due.is("33 n 21", x.odds(21, 1), Due.BEYOND);
        due.is("33 what 2", x.odds(1, 2), Due.BEYOND);
        due.is("33 what -1", x.odds(1, -1), Due.BEYOND);
        due.is("33 status", x.status(0), 4);
    }

    private static void seed() {
        HourEggs x = new HourEggs();
        due.is("34 at first", x.seed(-1000001), 1);
        due.is("48 z", x.count(6), -1000001);
        due.is("34 was", x.seed(Integer.MIN_VALUE), -1000001);
        due.is("34 was", x.seed(5), Integer.MIN_VALUE);
        due.is("34 is no finding", x.status(-1), 0);
    }
}
