/** Promises 11 to 19: days, and what will be. */
public final class DaysTest {
    private static final Due due = new Due();

    public static void main(String[] args) {
        go();
        spoiling();
        laying();
        now();
        ahead();
        spoils();
        ripe();
        lasts();
        when();
        kindFor();
        everyFor();
        lastDays();
        due.end("DaysTest");
    }

    private static void go() {
        HourEggs x = new HourEggs();
        due.is("11 n 0", x.go(0), Due.BEYOND);
        due.is("11 n 61", x.go(61), Due.BEYOND);
        due.is("11 n -1", x.go(-1), Due.BEYOND);
        x.egg(2, 50, 0);
        due.is("11 n 60", x.go(60), 1);
        due.is("12 DAY", x.now(0), 60);
        due.is("11 n 1", x.go(1), 0);
        due.is("12 DAY", x.now(0), 61);
        due.is("12 SPOILED", x.now(4), 1);
    }

    private static void spoiling() {
        int[] keeps = {30, 30, 60, 60, 9, 5, 20};
        for (int kind = 0; kind < 7; kind++) {
            HourEggs x = new HourEggs();
            x.egg(kind, 50, 0);
            due.is("11 keeps " + kind, x.go(keeps[kind]), 1);
            due.is("11 AGE of " + kind, x.of(0, 2), keeps[kind]);
            due.is("11 spoils " + kind, x.go(1), 0);
        }
        HourEggs x = new HourEggs();
        x.egg(2, 50, 0);
        x.change(0, 2, 99);
        due.is("an old EGG is there until a DAY goes by", x.of(0, 4), 30);
        due.is("11 old", x.go(1), 0);
    }

    private static void laying() {
        HourEggs x = new HourEggs();
        x.hen(3, 0, 2);
        x.hen(3, 1, 5);
        x.hen(3, 2, 7);
        x.hen(1, 0, 4);
        due.is("none on DAY 1", x.go(1), 0);
        due.is("one on DAY 2", x.go(1), 1);
        due.is("KIND", x.of(0, 0), 5);
        due.is("SIZE", x.of(0, 1), 7);
        due.is("AGE", x.of(0, 2), 0);
        due.is("NEST", x.of(0, 3), 3);
        due.is("both on DAY 4", x.go(2), 3);
        due.is("HENS by numbers", x.of(1, 0), 0);
        due.is("HENS by numbers", x.of(2, 0), 5);
        due.is("its NEST", x.of(1, 3), 1);
        // The EGG of DAY 2 is of AGE 6 on DAY 8: it spoils, and both lay behind that.
        due.is("spoiling comes first", x.go(4), 5);
        due.is("its PLACE is used again", x.of(0, 0), 0);
        due.is("its PLACE is used again", x.of(0, 2), 0);

        HourEggs full = new HourEggs();
        full.hen(0, 0, 1);
        full.hen(1, 0, 1);
        full.hen(1, 1, 2);
        due.is("8 PLACES", full.go(4), 8);
        due.is("no empty PLACE, none laid", full.go(1), 8);
        due.is("first is as it was", full.of(0, 2), 4);
    }

    private static void now() {
        HourEggs x = new HourEggs();
        x.egg(0, 10, 0);
        x.egg(0, 20, 0);
        x.egg(4, 50, 0);
        x.broken(1);
        x.work(2, 0, 5);
        due.is("12 PLACES", x.now(1), 5);
        due.is("12 MINUTES", x.now(2), 10 - 35);
        due.is("12 DONE", x.now(3), 63 - 4);
        due.is("12 what -1", x.now(-1), Due.BEYOND);
        due.is("12 what 5", x.now(5), Due.BEYOND);
    }

    private static void ahead() {
        HourEggs x = new HourEggs();
        x.egg(0, 50, 0);
        x.egg(6, 5, 0);
        due.is("13 now", x.ahead(0), 80);
        due.is("13 behind 1", x.ahead(1), 49 + 8);
        due.is("13 behind 4", x.ahead(4), 46 + 22);
        due.is("13 behind 20", x.ahead(20), 30 + 20);
        due.is("13 behind 24", x.ahead(24), 26);
        due.is("13 behind 30", x.ahead(30), 20);
        due.is("13 behind 31", x.ahead(31), 0);
        due.is("13 n -1", x.ahead(-1), Due.BEYOND);
        due.is("13 n 101", x.ahead(101), Due.BEYOND);
        x.hen(0, 0, 30);
        due.is("13 HENS lay", x.ahead(30), 20 + 60);
        due.is("13 HENS lay", x.ahead(100), 50);
        due.is("13 nothing changes", x.now(0), 0);
        due.is("13 nothing changes", x.now(1), 3);
    }

    private static void spoils() {
        HourEggs x = new HourEggs();
        x.egg(5, 50, 0);
        x.egg(5, 50, 0);
        x.egg(4, 50, 0);
        due.is("14 n 0", x.spoils(0), 0);
        due.is("14 n 5", x.spoils(5), 0);
        due.is("14 n 6", x.spoils(6), 2);
        due.is("14 n 10", x.spoils(10), 3);
        due.is("14 n 100", x.spoils(100), 3);
        x.hen(0, 0, 10);
        x.hen(0, 1, 5);
        due.is("14 of those that are laid too", x.spoils(26), 5);
        due.is("14 n -1", x.spoils(-1), Due.BEYOND);
        due.is("14 n 101", x.spoils(101), Due.BEYOND);
        due.is("14 nothing changes", x.now(4), 0);
        x.go(10);
        due.is("14 from now on", x.spoils(0), 0);
        due.is("12 SPOILED", x.now(4), 3);
    }

    private static void ripe() {
        HourEggs x = new HourEggs();
        x.egg(2, 50, 0);
        due.is("15 WARM", x.ripe(0), 15);
        x.change(0, 1, 1);
        due.is("15 WARM of SIZE 1", x.ripe(0), 15);
        x.change(0, 0, 4);
        due.is("15 ROTTEN", x.ripe(0), 0);
        x.change(0, 0, 0);
        due.is("15 EGG", x.ripe(0), 0);
        x.change(0, 0, 2);
        x.change(0, 2, 15);
        due.is("15 the fewest", x.ripe(0), 0);
        x.change(0, 0, 4);
        x.change(0, 1, 2);
        x.change(0, 2, 0);
        due.is("15 ROTTEN of SIZE 2", x.ripe(0), 0);
        x.go(1);
        x.change(0, 0, 1);
        x.change(0, 1, 50);
        due.is("15 LEAP on the next DAY by 4", x.ripe(0), 3);
        x.change(0, 2, 28);
        due.is("15 LEAP that is gone by then", x.ripe(0), 0);
        x.change(0, 2, 27);
        due.is("15 LEAP on its last DAY", x.ripe(0), 3);
        due.is("15 empty", x.ripe(1), Due.BEYOND);
        due.is("15 place 8", x.ripe(8), Due.BEYOND);
        due.is("15 place -1", x.ripe(-1), Due.BEYOND);
    }

    private static void lasts() {
        HourEggs x = new HourEggs();
        int[] keeps = {30, 30, 60, 60, 9, 5, 20};
        for (int kind = 0; kind < 7; kind++) {
            x.egg(kind, 50, 0);
            due.is("16 of " + kind, x.lasts(kind), keeps[kind] + 1);
            x.change(kind, 2, keeps[kind]);
            due.is("16 on its last DAY", x.lasts(kind), 1);
            x.change(kind, 2, 99);
            due.is("16 of AGE 99", x.lasts(kind), 1);
        }
        due.is("16 empty", x.lasts(7), Due.BEYOND);
        due.is("16 place 8", x.lasts(8), Due.BEYOND);
        due.is("16 place -1", x.lasts(-1), Due.BEYOND);
    }

    private static void when() {
        HourEggs x = new HourEggs();
        x.egg(2, 50, 0);
        due.is("17 now", x.when(50), 0);
        due.is("17 behind 1", x.when(51), 1);
        due.is("17 behind 15", x.when(65), 15);
        due.is("17 NONE", x.when(66), Due.NONE);
        due.is("17 -1", x.when(-1), Due.BEYOND);
        due.is("17 10000", x.when(10000), Due.BEYOND);
        due.is("17 9999", x.when(9999), Due.NONE);
        x.hen(0, 0, 25);
        x.hen(0, 2, 99);
        due.is("17 HENS lay", x.when(99), 25);
        x.change(0, 0, 4);
        due.is("17 below 0", x.when(0), 10);
        // Both lay on DAY 100: 60, 40, 60 and 35.
        HourEggs last = new HourEggs();
        last.hen(0, 0, 20);
        last.hen(1, 0, 25);
        due.is("17 behind 100", last.when(195), 100);
        due.is("17 not within 100", last.when(196), Due.NONE);
    }

    private static void kindFor() {
        HourEggs x = new HourEggs();
        x.egg(0, 50, 0);
        due.is("18 now", x.kindFor(0, 0), 6);
        due.is("18 behind 15", x.kindFor(0, 15), 6);
        due.is("18 behind 20", x.kindFor(0, 20), 6);
        due.is("18 behind 21", x.kindFor(0, 21), 2);
        due.is("18 behind 60", x.kindFor(0, 60), 2);
        due.is("18 gone as any", x.kindFor(0, 61), 0);
        due.is("18 n 100", x.kindFor(0, 100), 0);
        x.change(0, 1, 1);
        x.go(1);
        x.change(0, 2, 0);
        // SIZE 1, AGE 0 on DAY 1: 1, 1, 1, -14, 14, 0, 2.
        due.is("18 ROTTEN", x.kindFor(0, 0), 4);
        due.is("18 n -1", x.kindFor(0, -1), Due.BEYOND);
        due.is("18 n 101", x.kindFor(0, 101), Due.BEYOND);
        due.is("18 empty", x.kindFor(1, 0), Due.BEYOND);
        due.is("18 place 8", x.kindFor(8, 0), Due.BEYOND);
        due.is("18 place -1", x.kindFor(-1, 0), Due.BEYOND);
        // On DAY 1 with AGE 98, nothing behind a DAY; now 0, 0, 30, 15, -15, 0, 0.
        x.change(0, 2, 98);
        due.is("18 it is there now", x.kindFor(0, 0), 2);
        due.is("18 it is gone then", x.kindFor(0, 1), 0);
    }

    private static void everyFor() {
        HourEggs x = new HourEggs();
        due.is("19 nothing is laid", x.everyFor(0, 0), 1);
        due.is("19 n 1", x.everyFor(0, 1), 1);
        // On DAY 10: 8 PLACES are full from DAY 8 on with EVERY 1 (60-2 .. 60-9 = 436); with 2: 60+58+..+52 = 280.
        due.is("19 n 10", x.everyFor(0, 10), 1);
        // On DAY 30: with 1, the EGGS of DAYS 1 to 8 (AGE 22 to 29: 276); with 3: DAYS 3 to 24 (AGE 6 to 27: 348);
        // with 4: DAYS 4 to 28 (AGE 2 to 26, seven: 322).
        due.is("19 n 30", x.everyFor(0, 30), 3);
        x.hen(0, 0, 7);
        due.is("19 its EVERY doesn't matter", x.everyFor(0, 30), 3);
        due.is("19 nothing changes", x.henOf(0, 0), 7);
        due.is("19 hen 4", x.everyFor(4, 1), Due.BEYOND);
        due.is("19 hen -1", x.everyFor(-1, 1), Due.BEYOND);
        due.is("19 n -1", x.everyFor(0, -1), Due.BEYOND);
        due.is("19 n 61", x.everyFor(0, 61), Due.BEYOND);
        x.hen(3, 1, 4);
        x.hen(0, 0, 0);
        // ROTTEN ones are worth less than none: best is that none is there then. With 16 the one of DAY 48 is gone.
        due.is("19 ROTTEN", x.everyFor(3, 10), 11);
        due.is("19 n 60", x.everyFor(3, 60), 16);
    }

    /** Beyond the calls that are promised, but there is no other way to the last DAYS. */
    private static void lastDays() {
        HourEggs x = new HourEggs();
        for (int h = 0; h < 4; h++) {
            x.hen(h, 0, 1);
            x.hen(h, 1, 5);
        }
        for (int i = 0; i < 1666; i++) {
            x.go(60);
        }
        due.is("12 SPOILED is 99999 at most", x.now(4), 99999);
        due.is("14 but more spoil", x.spoils(100) > 100 ? 1 : 0, 1);
        due.is("12 DAY", x.now(0), 99960);
        due.is("11 above 99999", x.go(40), Due.STATE);
        due.is("32 above 99999", x.foxes(20) >= 0 ? 1 : 0, 1);
        due.is("32 above 99999", x.foxes(20), Due.STATE);
        due.is("11 BEYOND first", x.go(61), Due.BEYOND);
        due.is("32 BEYOND first", x.foxes(21), Due.BEYOND);
        x.image();
        due.is("11 to 100000", x.go(20), Due.STATE);
        due.is("11 to 99999", x.go(19), 8);
        due.is("12 DAY", x.now(0), 99999);
        due.is("46 DAY", x.undo(), 99980);
        due.is("32 to 99999", x.foxes(19) >= 0 ? 1 : 0, 1);
        due.is("12 DAY", x.now(0), 99999);
        due.is("46 DAY", x.undo(), 99980);
        due.is("11 to 99998", x.go(18), 8);
        due.is("11 above 99999 by one", x.go(2), Due.STATE);
        due.is("32 above 99999 by one", x.foxes(2), Due.STATE);
        due.is("32 one to 99999", x.foxes(1) >= 0 ? 1 : 0, 1);
        due.is("12 DAY", x.now(0), 99999);
        due.is("11 above 99999", x.go(1), Due.STATE);
        due.is("32 above 99999", x.foxes(1), Due.STATE);
        for (int h = 0; h < 4; h++) {
            x.hen(h, 0, 0);
        }
        while (x.now(1) != 0) {
            x.broken(Integer.numberOfTrailingZeros(x.now(1)));
        }
        x.egg(1, 50, 0);
        due.is("13 DAY is 99999 at most", x.ahead(1), 49);
        due.is("13 DAY is 99999 at most", x.ahead(2), 48);
        due.is("15 DAY is 99999 at most", x.ripe(0), 0);
    }
}
