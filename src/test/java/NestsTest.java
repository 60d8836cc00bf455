/** Promises 25 to 29: nests, two who share. */
public final class NestsTest {
    private static final Due due = new Due();

    public static void main(String[] args) {
        nests();
        shares();
        sets();
        due.end("NestsTest");
    }

    private static void nests() {
        HourEggs x = new HourEggs();
        due.is("26 all alike, the least", x.guard(), 0);
        x.egg(4, 40, 0);
        due.is("25 below 0", x.nest(0), -25);
        due.is("26 no EGGS is more", x.guard(), 1);
        x.egg(0, 30, 2);
        x.egg(0, 20, 2);
        x.egg(0, 50, 3);
        due.is("25 two", x.nest(2), 50);
        due.is("25 one", x.nest(3), 50);
        due.is("25 none", x.nest(1), 0);
        due.is("26 of several the least", x.guard(), 2);
        x.change(3, 1, 51);
        due.is("26 most", x.guard(), 3);
        x.broken(3);
        due.is("25 broken ones don't count", x.nest(3), 0);
        due.is("25 nest -1", x.nest(-1), Due.BEYOND);
        due.is("25 nest 4", x.nest(4), Due.BEYOND);
    }

    private static void shares() {
        HourEggs x = new HourEggs();
        due.is("27 no EGGS", x.halves(), 0);
        due.is("28 no EGGS", x.apart(), 0);
        x.egg(0, 10, 0);
        due.is("27 one: none, the least", x.halves(), 0);
        due.is("28 one", x.apart(), 10);
        x.egg(0, 20, 0);
        x.egg(0, 30, 0);
        due.is("27 two and one", x.halves(), 3);
        due.is("28 alike", x.apart(), 0);
        x.egg(0, 7, 0);
        due.is("27 the least of two", x.halves(), 3);
        due.is("28 apart", x.apart(), 7);
        x.broken(0);
        due.is("28 20, 7 and 30", x.apart(), 3);
        due.is("27 of PLACES with EGGS", x.halves(), 4);
        x.egg(4, 18, 0);
        // -3 with 30, and 20 with 7.
        due.is("27 with a ROTTEN one", x.halves(), 5);
        due.is("28 with a ROTTEN one", x.apart(), 0);
    }

    private static void sets() {
        HourEggs x = new HourEggs();
        due.is("29 none of none", x.sets(0), 1);
        due.is("29 no such", x.sets(1), 0);
        for (int i = 0; i < 8; i++) {
            x.egg(0, 10, 0);
        }
        due.is("29 none", x.sets(0), 1);
        due.is("29 one", x.sets(10), 8);
        due.is("29 four", x.sets(40), 70);
        due.is("29 all", x.sets(80), 1);
        due.is("29 between", x.sets(41), 0);
        x.broken(3);
        due.is("29 three of seven", x.sets(30), 35);
        x.change(0, 0, 4);
        x.change(0, 1, 35);
        due.is("29 below 0", x.sets(-20), 1);
        due.is("29 -20 and 20", x.sets(0), 1 + 15);
        due.is("29 -9999", x.sets(-9999), 0);
        due.is("29 9999", x.sets(9999), 0);
        due.is("29 -10000", x.sets(-10000), Due.BEYOND);
        due.is("29 10000", x.sets(10000), Due.BEYOND);
    }
}
