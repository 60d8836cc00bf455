/** The edges that the document's Terms name, and those within the promises: just inside, at and just outside. */
public final class EdgesTest {
    private static final Due due = new Due();
    private static final int[] KEEPS = {30, 30, 60, 60, 9, 5, 20};

    public static void main(String[] args) {
        sizeAndAge();
        warmth();
        leapDays();
        keeping();
        done();
        held();
        lateWorks();
        every();
        laying();
        spoiled();
        draws();
        ripeAndLasts();
        kindFor();
        everyFor();
        when();
        shares();
        signs();
        told();
        spots();
        images();
        due.end("EdgesTest");
    }

    /** MINUTES of an EGG of a KIND, SIZE and AGE on a DAY. */
    private static int minutes(int kind, int size, int age, int day) {
        HourEggs x = new HourEggs();
        if (day > 0) {
            x.go(day);
        }
        x.egg(kind, size, 0);
        x.change(0, 2, age);
        return x.of(0, 4);
    }

    private static void sizeAndAge() {
        int[][] cases = {{1, 0, 1}, {1, 1, 0}, {1, 2, 0}, {1, 99, 0}, {50, 49, 1}, {50, 50, 0}, {50, 51, 0}, {99, 0, 99},
            {99, 98, 1}, {99, 99, 0}};
        for (int[] c : cases) {
            due.is("EGG of " + c[0] + ", " + c[1], minutes(0, c[0], c[1], 1), c[2]);
            due.is("LEAP is as it", minutes(1, c[0], c[1], 1), c[2]);
            due.is("LEAP, and 10", minutes(1, c[0], c[1], 4), c[2] + 10);
            due.is("DOUBLE is twice that", minutes(6, c[0], c[1], 1), 2 * c[2]);
            due.is("DOUBLE is twice that with the 10", minutes(6, c[0], c[1], 4), 2 * c[2] + 20);
        }
        int[] half = {0, 0, 1, 1, 2, 2};
        for (int size = 1; size < half.length; size++) {
            due.is("WIND is half, cut, of " + size, minutes(5, size, 0, 0), half[size]);
        }
        due.is("WIND of 98", minutes(5, 99, 1, 0), 49);
        due.is("WIND of 99", minutes(5, 99, 0, 0), 49);
        due.is("WIND of none", minutes(5, 3, 4, 0), 0);
    }

    private static void warmth() {
        int[][] cases = {{50, 0, 50}, {50, 1, 51}, {50, 14, 64}, {50, 15, 65}, {50, 16, 64}, {50, 49, 31}, {50, 50, 30},
            {50, 51, 30}, {50, 99, 30}, {1, 0, 1}, {1, 1, 2}, {1, 2, 4}, {7, 8, 16}, {1, 14, 28}, {1, 15, 30}, {1, 16, 30}};
        for (int[] c : cases) {
            due.is("WARM of " + c[0] + ", " + c[1], minutes(2, c[0], c[1], 0), c[2]);
            due.is("BORROWED of " + c[0] + ", " + c[1], minutes(3, c[0], c[1], 0), c[2] - 15);
            due.is("ROTTEN of " + c[0] + ", " + c[1], minutes(4, c[0], c[1], 0), 15 - c[2]);
        }
    }

    private static void leapDays() {
        for (int day = 0; day <= 9; day++) {
            int more = day == 0 || day == 4 || day == 8 ? 10 : 0;
            due.is("LEAP on DAY " + day, minutes(1, 20, 0, day), 20 + more);
            due.is("DOUBLE on DAY " + day, minutes(6, 20, 0, day), 40 + 2 * more);
            due.is("EGG on DAY " + day, minutes(0, 20, 0, day), 20);
        }
    }

    /** By AGE, from just below KEEPS to just above. */
    private static void keeping() {
        for (int kind = 0; kind < 7; kind++) {
            for (int age = KEEPS[kind] - 1; age <= KEEPS[kind] + 1; age++) {
                HourEggs x = new HourEggs();
                x.egg(kind, 50, 0);
                due.is("4 an AGE above KEEPS may be", x.change(0, 2, age), 0);
                due.is("it is there", x.count(1), 1);
                due.is("14 spoils", x.spoils(1), age >= KEEPS[kind] ? 1 : 0);
                due.is("16 lasts", x.lasts(0), Math.max(1, KEEPS[kind] + 1 - age));
                due.is("11 there behind a DAY", x.go(1), age >= KEEPS[kind] ? 0 : 1);
                due.is("12 SPOILED", x.now(4), age >= KEEPS[kind] ? 1 : 0);
            }
        }
        HourEggs x = new HourEggs();
        x.egg(2, 50, 0);
        x.go(6);
        x.change(0, 0, 5);
        due.is("another KIND keeps less: it is there yet", x.of(0, 5), 5);
        due.is("and gone behind a DAY", x.go(1), 0);
        due.is("12 SPOILED", x.now(4), 1);
        due.is("37 aged above KEEPS", Due.text(x, "wind 9 aged 99"), 1);
        due.is("it is there", x.count(1), 1);
        due.is("gone behind a DAY", x.go(1), 0);
    }

    private static void done() {
        HourEggs x = new HourEggs();
        int[][] cases = {{0, 0, 1}, {0, -1, 0}, {0, 1, 1}, {1, 0, 0}, {1, 1, 1}, {999, 998, 0}, {999, 999, 1}, {999, 1000, 1},
            {999, 9999, 1}, {0, -9999, 0}};
        for (int[] c : cases) {
            x.work(3, 0, c[0]);
            x.work(3, 3, c[1]);
            due.is("8 DONE", x.workOf(3, 4), c[2]);
            due.is("12 DONE", x.now(3), 55 + 8 * c[2]);
            due.is("48 DONE", x.count(2), 5 + c[2]);
            due.is("20 DONE needs none", x.fewest(3), c[2] == 1 ? 0 : Due.NONE);
            due.is("21 DONE needs none", x.thrifty(3), c[2] == 1 ? 0 : Due.NONE);
            due.is("24 DONE needs none", x.soonest(3), c[2] == 1 ? 0 : Due.NONE);
            x.work(3, 2, 99);
            due.is("22 DONE needs none", x.best(), 99 * c[2]);
            due.is("23 DONE needs none", x.bestWorks(), 8 * c[2]);
        }
    }

    private static void held() {
        // GOT, the EGG's KIND and SIZE, GOT then.
        int[][] cases = {{9949, 0, 50, 9999}, {9948, 0, 50, 9998}, {9950, 0, 50, 9999}, {9999, 0, 1, 9999},
            {-9964, 4, 50, -9999}, {-9963, 4, 50, -9998}, {-9965, 4, 50, -9999}, {-9999, 4, 16, -9999},
            {-9999, 0, 1, -9998}, {9999, 4, 16, 9998}, {9999, 4, 15, 9999}, {9999, 4, 14, 9999}};
        for (int[] c : cases) {
            HourEggs x = new HourEggs();
            x.egg(c[1], c[2], 0);
            x.work(0, 3, c[0]);
            due.is("9 GOT is held", x.spend(0, 0), c[3]);
            due.is("8 GOT is held", x.workOf(0, 3), c[3]);
            due.is("9 its PLACE is empty", x.now(1), 0);
            due.is("9 it is not SPOILED", x.now(4), 0);
        }
    }

    /** A WORK of DUE 3 on DAYS 2, 3 and 4, and one that is DONE. */
    private static void lateWorks() {
        for (int day = 2; day <= 4; day++) {
            HourEggs x = new HourEggs();
            x.go(day);
            x.egg(0, 50, 0);
            x.work(0, 0, 50);
            x.work(0, 1, 3);
            x.work(0, 2, 7);
            boolean late = day > 3;
            due.is("20 on DAY " + day, x.fewest(0), late ? Due.NONE : 1);
            due.is("21 on DAY " + day, x.thrifty(0), late ? Due.NONE : 1);
            due.is("22 on DAY " + day, x.best(), late ? 0 : 7);
            due.is("23 on DAY " + day, x.bestWorks(), late ? 0 : 1);
            due.is("24 on DAY " + day, x.soonest(0), late ? Due.NONE : 0);
            due.is("9 on DAY " + day, x.spend(0, 0), late ? Due.STATE : 50);
            x.work(0, 3, 50);
            due.is("20 DONE on DAY " + day, x.fewest(0), 0);
            due.is("21 DONE on DAY " + day, x.thrifty(0), 0);
            due.is("22 DONE on DAY " + day, x.best(), 7);
            due.is("23 DONE on DAY " + day, x.bestWorks(), 1);
        }
        HourEggs x = new HourEggs();
        x.hen(0, 0, 3);
        x.work(0, 0, 60);
        for (int dueDay = 0; dueDay <= 5; dueDay++) {
            x.work(0, 1, dueDay);
            due.is("24 no later than DAY " + dueDay, x.soonest(0), dueDay < 3 ? Due.NONE : 3);
        }
        x.work(0, 1, 60);
        x.hen(0, 0, 30);
        x.work(0, 0, 90);
        due.is("24 behind 60", x.soonest(0), 60);
        x.work(0, 0, 91);
        due.is("24 not by one more", x.soonest(0), Due.NONE);
    }

    private static void every() {
        for (int every : new int[] {0, 1, 2, 29, 30}) {
            HourEggs x = new HourEggs();
            x.hen(2, 0, every);
            for (int day = 1; day <= 61; day++) {
                for (int egg = 0; egg < 8; egg++) {
                    x.broken(egg);
                }
                due.is("EVERY " + every + " on DAY " + day, x.go(1), every > 0 && day % every == 0 ? 1 : 0);
            }
        }
        HourEggs x = new HourEggs();
        x.go(7);
        x.hen(0, 0, 5);
        due.is("by the DAY, not from when it was told", x.go(2), 0);
        due.is("by the DAY, not from when it was told", x.go(1), 1);
    }

    private static void laying() {
        HourEggs x = new HourEggs();
        for (int i = 0; i < 7; i++) {
            x.egg(2, 50, 0);
        }
        x.hen(3, 0, 2);
        x.hen(1, 0, 2);
        x.hen(1, 1, 6);
        x.hen(1, 2, 99);
        due.is("one PLACE is left", x.go(2), 8);
        due.is("HEN 1 lays ahead of HEN 3", x.of(7, 0), 6);
        due.is("SIZE", x.of(7, 1), 99);
        due.is("AGE 0", x.of(7, 2), 0);
        due.is("NEST", x.of(7, 3), 1);
        x.broken(4);
        x.broken(2);
        due.is("none by that for which there was no PLACE", x.go(1), 6);
        due.is("by numbers, in the least empty ones", x.go(1), 8);
        due.is("HEN 1 first", x.of(2, 3), 1);
        due.is("then HEN 3", x.of(4, 3), 3);
        due.is("AGE goes on", x.of(7, 2), 2);

        HourEggs full = new HourEggs();
        for (int i = 0; i < 8; i++) {
            full.egg(2, 50, 0);
        }
        full.change(5, 2, 60);
        full.change(3, 2, 59);
        full.hen(0, 0, 1);
        due.is("in the PLACE of what spoils on that DAY", full.go(1), 8);
        due.is("it is a new one", full.of(5, 2), 0);
        due.is("the other one on its last DAY", full.of(3, 2), 60);
        due.is("next DAY", full.go(1), 8);
        due.is("that one too", full.of(3, 2), 0);
        due.is("the new one", full.of(5, 2), 1);
        due.is("12 SPOILED", full.now(4), 2);
        due.is("no PLACE", full.go(1), 8);
        due.is("none is laid", full.of(3, 2), 1);
    }

    private static void spoiled() {
        HourEggs x = new HourEggs();
        for (int kind = 0; kind < 7; kind++) {
            x.egg(kind, 50, 0);
            x.change(kind, 2, KEEPS[kind]);
        }
        due.is("14 one more each", x.spoils(1), 7);
        due.is("14 none in none", x.spoils(0), 0);
        x.go(1);
        due.is("12 one more each", x.now(4), 7);
        due.is("48 one more each", x.count(3), 7);
        due.is("12 none is there", x.now(1), 0);
        x.egg(5, 50, 0);
        x.broken(0);
        x.egg(5, 50, 0);
        x.spend(0, 0);
        x.go(60);
        due.is("12 spent and broken ones are not SPOILED", x.now(4), 7);
        x.hen(0, 0, 1);
        x.hen(0, 1, 5);
        // DAY is 61: of one each from DAY 62 on, each of AGE 6 behind 6 DAYS, those of DAYS 62 to 155 spoil.
        due.is("14 in 6 DAYS", x.spoils(6), 0);
        due.is("14 in 7 DAYS", x.spoils(7), 1);
        due.is("14 in 100 DAYS", x.spoils(100), 94);
    }

    private static void draws() {
        // z 1 by hand: 1103527590 >>> 8 is 4310654, and leaves 2 by 4; then -1770082073 >>> 8 is 9862857, and leaves 1.
        HourEggs x = new HourEggs();
        for (int nest = 0; nest < 4; nest++) {
            x.egg(2, 50, nest);
        }
        due.is("32 first draw", x.foxes(1), 1);
        due.is("32 NEST 2", x.now(1), 11);
        due.is("48 z", x.count(6), 1103527590);
        due.is("32 second draw", x.foxes(1), 1);
        due.is("48 z wraps around", x.count(6), (int) (1103527590L * 1103515245L + 12345L));
        due.is("32 NEST by the bits above 8", x.now(1), 11 - (1 << ((x.count(6) >>> 8) & 3)));
        due.is("a DAY each", x.now(0), 2);
        due.is("AGE", x.of(0, 2) < 0 ? x.of(1, 2) : x.of(0, 2), 2);
        HourEggs y = new HourEggs();
        due.is("33 no draws at all", y.odds(0, 0), 1);
        due.is("33 no draws at all", y.odds(0, 1), 1);
        due.is("33 one", y.odds(1, 0), 3);
        due.is("33 one", y.odds(1, 1), 4);
        due.is("33 above an int", y.odds(20, 0), 3486784401L);
        due.is("33 above an int", y.odds(20, 1), 1L << 40);
        due.is("33 no draw is made", y.count(6), 1);
    }

    private static void ripeAndLasts() {
        HourEggs x = new HourEggs();
        x.egg(2, 50, 0);
        due.is("16 the most there is", x.lasts(0), 61);
        x.change(0, 2, 60);
        due.is("16 the last DAY", x.lasts(0), 1);
        due.is("15 the last DAY", x.ripe(0), 0);
        x.change(0, 2, 61);
        due.is("15 above KEEPS, there yet", x.ripe(0), 0);
        x.change(0, 2, 14);
        due.is("15 behind one", x.ripe(0), 1);
        x.change(0, 2, 15);
        due.is("15 now", x.ripe(0), 0);
        x.change(0, 2, 16);
        due.is("15 behind it", x.ripe(0), 0);
        x.change(0, 1, 1);
        x.change(0, 2, 13);
        due.is("15 the fewest of as many MINUTES", x.ripe(0), 2);
        // LEAP of no SIZE left: 10 on each DAY by 4.
        x.go(1);
        x.egg(1, 1, 0);
        x.change(1, 2, 1);
        due.is("15 the fewest of DAYS by 4", x.ripe(1), 3);
        x.change(1, 2, 27);
        due.is("15 that it comes to", x.ripe(1), 3);
        x.change(1, 2, 28);
        due.is("15 that it doesn't come to", x.ripe(1), 0);
        // ROTTEN of SIZE 99: from AGE 15 on it is less bad, but it keeps 9 only.
        x.change(1, 0, 4);
        x.change(1, 1, 99);
        x.change(1, 2, 9);
        due.is("15 ROTTEN", x.ripe(1), 0);
        due.is("16 ROTTEN", x.lasts(1), 1);
        x.change(1, 2, 0);
        due.is("16 ROTTEN", x.lasts(1), 10);
        x.change(1, 0, 6);
        due.is("16 DOUBLE", x.lasts(1), 21);
    }

    private static void kindFor() {
        // On DAY 1: SIZE 15 and AGE 5: WARM 20, DOUBLE 20.
        HourEggs x = new HourEggs();
        x.go(1);
        x.egg(0, 15, 0);
        x.change(0, 2, 5);
        due.is("18 of several the least", x.kindFor(0, 0), 2);
        x.change(0, 1, 16);
        due.is("18 by one more", x.kindFor(0, 0), 6);
        // On DAY 8 its AGE is 12: WARM is 4 and 24, DOUBLE twice 4 and 10.
        due.is("18 of several the least", x.kindFor(0, 7), 2);
        x.change(0, 1, 99);
        x.change(0, 2, 0);
        due.is("18 DOUBLE on its last DAY", x.kindFor(0, 20), 6);
        due.is("18 behind that", x.kindFor(0, 21), 2);
        due.is("18 WARM on its last DAY", x.kindFor(0, 60), 2);
        due.is("18 gone as each", x.kindFor(0, 61), 0);
        due.is("18 gone as each", x.kindFor(0, 100), 0);
        x.change(0, 2, 99);
        due.is("18 the oldest is there yet", x.kindFor(0, 0), 2);
        due.is("18 and gone behind a DAY", x.kindFor(0, 1), 0);
        x.change(0, 0, 4);
        x.change(0, 1, 1);
        x.change(0, 2, 0);
        due.is("18 ROTTEN is more than all", x.kindFor(0, 0), 4);
        due.is("4 nothing changes", x.of(0, 0), 4);
    }

    private static void everyFor() {
        // One PLACE is left, and a new EGG there is best.
        HourEggs x = new HourEggs();
        for (int i = 0; i < 7; i++) {
            x.egg(2, 50, 0);
        }
        due.is("19 behind none, any", x.everyFor(0, 0), 1);
        due.is("19 behind 1", x.everyFor(0, 1), 1);
        due.is("19 behind 2", x.everyFor(0, 2), 2);
        due.is("19 behind 29", x.everyFor(0, 29), 29);
        due.is("19 behind 30", x.everyFor(0, 30), 30);
        due.is("19 behind 31", x.everyFor(0, 31), 30);
        // With 15: laid on DAY 15, it spoils on DAY 46, and the next one is laid on DAY 60.
        due.is("19 behind 60", x.everyFor(0, 60), 15);
        x.egg(2, 50, 0);
        due.is("19 there is no PLACE", x.everyFor(0, 60), 1);
        due.is("19 nothing changes", x.henOf(0, 0), 0);
        due.is("19 nothing changes", x.count(0), 0);
    }

    private static void when() {
        HourEggs x = new HourEggs();
        due.is("17 nothing is 0 or more", x.when(0), 0);
        due.is("17 nothing is never 1", x.when(1), Due.NONE);
        x.egg(4, 16, 0);
        // ROTTEN of 16: -1 now, and less with each DAY, to DAY 9.
        due.is("17 -1 is less than 0", x.when(0), 10);
        x.change(0, 1, 15);
        due.is("17 0 is enough", x.when(0), 0);
        x.change(0, 1, 14);
        due.is("17 1", x.when(1), 0);
        due.is("17 2", x.when(2), Due.NONE);
    }

    private static void shares() {
        HourEggs x = new HourEggs();
        due.is("26 no EGGS", x.guard(), 0);
        x.egg(0, 1, 3);
        due.is("26 by 1", x.guard(), 3);
        x.egg(0, 1, 2);
        due.is("26 of several the least", x.guard(), 2);
        x.egg(4, 16, 2);
        due.is("26 one less", x.guard(), 3);
        due.is("25 -1 and 1", x.nest(2), 0);
        due.is("29 none, and -1 with either 1", x.sets(0), 3);
        due.is("29 1", x.sets(1), 3);
        due.is("29 2", x.sets(2), 1);
        due.is("29 -1", x.sets(-1), 1);
        due.is("29 -2", x.sets(-2), 0);
        due.is("28 1 in all", x.apart(), 1);
        due.is("27 of several the least", x.halves(), 0);
        HourEggs big = new HourEggs();
        for (int i = 0; i < 8; i++) {
            big.egg(6, 99, 0);
        }
        due.is("12 the most that can be", big.now(2), 8 * 218);
        due.is("29 the most that can be", big.sets(8 * 218), 1);
        due.is("29 four of eight", big.sets(4 * 218), 70);
        due.is("27 four, the least", big.halves(), 15);
        due.is("28 alike", big.apart(), 0);
        big.broken(7);
        due.is("27 three, the least", big.halves(), 7);
        due.is("28 one more", big.apart(), 218);
        // All are below 0.
        HourEggs rotten = new HourEggs();
        for (int i = 0; i < 3; i++) {
            rotten.egg(4, 50, 0);
        }
        due.is("27 below 0, one", rotten.halves(), 1);
        due.is("28 below 0, apart", rotten.apart(), 35);
        due.is("29 below 0", rotten.sets(-70), 3);
    }

    /** ROTTEN of SIZE 99 is of -84 MINUTES with AGE 0 and 30: so the sign of a number is told. */
    private static void signs() {
        HourEggs x = new HourEggs();
        x.egg(4, 99, 0);
        // Bits, what is written, how many ages fit.
        int[][] cases = {{8, -84, 2}, {8, 172, 2}, {8, 428, 2}, {8, -340, 2}, {8, 84, 0}, {8, 255, 100}, {8, -1, 100},
            {8, 65535, 100}, {8, 254, 0}, {16, -84, 2}, {16, 172, 0}, {16, 65452, 2}, {16, 255, 0}, {16, 65535, 100},
            {16, 131071, 100}, {16, 130988, 2}, {16, 32767, 0}, {32, -84, 2}, {32, 172, 0}, {32, 65452, 0},
            {32, 65535, 0}, {32, -1, 100}, {32, Integer.MAX_VALUE, 0}, {32, Integer.MIN_VALUE, 0}};
        for (int[] c : cases) {
            x.sheet(0, c[0], 1);
            due.is("41 " + c[1], x.write(0, 0, c[1]), 1);
            due.is("41 " + c[1] + " in " + c[0] + " bits", x.ages(0, 0), c[2]);
        }
        // The greatest and the least of 8 and of 16 bits; NEEDS are 0 to 999.
        int[][] loads = {{8, 127, 1}, {8, 128, 0}, {8, 256, 1}, {8, -128, 0}, {8, -129, 1}, {16, 999, 1}, {16, 1000, 0},
            {16, 32767, 0}, {16, 32768, 0}, {16, 65536, 1}, {16, -65536 + 999, 1}, {16, -65537, 0}, {32, 999, 1},
            {32, 65536, 0}, {32, 0, 1}, {32, -1, 0}};
        for (int[] c : loads) {
            x.sheet(0, c[0], 1);
            x.write(0, 0, c[1]);
            due.is("43 " + c[1] + " of " + c[0] + " bits", x.load(0), c[2]);
        }
        x.sheet(0, 8, 6);
        for (int i = 0; i < 6; i++) {
            x.write(0, i, 1);
        }
        due.is("43 as many as there are WORKS", x.load(0), 6);
        x.sheet(0, 8, 40);
        due.is("43 no more than there are WORKS", x.load(0), 6);
        x.sheet(0, 8, 5);
        due.is("43 as many as it has", x.load(0), 5);
    }

    private static void told() {
        HourEggs x = new HourEggs();
        x.egg(0, 50, 0);
        Due.sheet(x, 0, 50);
        due.is("30 AGE 0", x.ages(0, 0), 1);
        due.is("31 AGE 0", x.youngest(0, 0), 0);
        x.change(0, 1, 99);
        Due.sheet(x, 0, 0);
        due.is("30 AGE 99", x.ages(0, 0), 1);
        due.is("31 AGE 99", x.youngest(0, 0), 99);
        Due.sheet(x, 0, 69, 0);
        due.is("30 AGE 30 on its last DAY", x.ages(0, 0), 1);
        due.is("31 AGE 30 on its last DAY", x.youngest(0, 0), 30);
        Due.sheet(x, 0, 70, 69, 0, 0);
        due.is("31 AGE 29", x.youngest(0, 0), 29);
        Due.sheet(x, 0, 70, 69, 68);
        due.is("30 it would be gone", x.ages(0, 0), 0);
        due.is("31 it would be gone", x.youngest(0, 0), Due.NONE);
        Due.sheet(x, 0, 68);
        due.is("31 above KEEPS it is there now", x.youngest(0, 0), 31);
        Due.sheet(x, 0, 68, 0);
        due.is("31 above KEEPS it is gone behind a DAY", x.youngest(0, 0), 31);
        Due.sheet(x, 0, -2);
        due.is("30 -2 is not any", x.ages(0, 0), 0);
        // 40 numbers, the last of which counts.
        int[] forty = new int[40];
        for (int i = 0; i < 40; i++) {
            forty[i] = -1;
        }
        x.change(0, 0, 2);
        // WARM of 99 behind 39 DAYS, with AGE 60 then: 39 and 30.
        forty[39] = 69;
        Due.sheet(x, 0, forty);
        due.is("30 behind 39", x.ages(0, 0), 1);
        due.is("31 behind 39", x.youngest(0, 0), 21);
        forty[39] = 68;
        Due.sheet(x, 0, forty);
        due.is("30 behind 39 it would be gone", x.ages(0, 0), 0);
        due.is("2 its AGE is as it was", x.of(0, 2), 0);
    }

    private static void spots() {
        HourEggs x = new HourEggs();
        due.is("38 an empty PLACE", x.hold(0, 0), 1);
        due.is("48 it holds that", x.count(7), 1);
        due.is("39 MISSING", x.as(0, 0), Due.MISSING);
        x.egg(6, 50, 0);
        due.is("39 empty no longer: DOUBLE as DOUBLE", x.as(0, 6), 0);
        due.is("39 as LEAP", x.as(0, 1), 0);
        due.is("39 as EGG", x.as(0, 0), 0);
        due.is("39 not as WARM", x.as(0, 2), Due.KIND);
        x.change(0, 0, 1);
        due.is("39 LEAP is not a DOUBLE one", x.as(0, 6), Due.KIND);
        x.change(0, 2, 30);
        x.hen(2, 0, 1);
        x.hen(2, 1, 4);
        x.go(1);
        due.is("39 spoiled, and ROTTEN is laid there", x.as(0, 4), 0);
        due.is("39 ROTTEN as BORROWED", x.as(0, 3), 0);
        due.is("39 ROTTEN as WARM", x.as(0, 2), 0);
        due.is("39 ROTTEN not as LEAP", x.as(0, 1), Due.KIND);
        due.is("38 what it held is held no longer", x.hold(0, -1), 1);
        due.is("39 nothing", x.as(0, 4), Due.MISSING);
        due.is("48 nothing", x.count(7), 0);
        for (int spot = 0; spot < 10; spot++) {
            x.hold(spot, 0);
        }
        due.is("38 all hold one", x.count(7), 10);
    }

    private static void images() {
        HourEggs x = new HourEggs();
        x.image();
        x.egg(0, 50, 0);
        x.image();
        due.is("47 both are one", x.tear(), 1);
        due.is("46 NONE behind that", x.undo(), Due.NONE);
        due.is("47 nothing", x.tear(), 0);
        due.is("nothing changes", x.count(1), 1);
        x.image();
        x.broken(0);
        x.tear();
        x.image();
        due.is("46 what was kept latest", x.undo(), 0);
        due.is("46 without the EGG", x.count(1), 0);
        x.go(9);
        due.is("46 DAY", x.undo(), 0);
        due.is("46 DAY, again", x.undo(), 0);
    }
}
