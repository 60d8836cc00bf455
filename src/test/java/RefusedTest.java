import java.util.Arrays;

/**
 * Each argument of each call just inside, at and just outside its bounds; the findings in their order; and that a
 * refused call changes nothing but status().
 */
public final class RefusedTest {
    private static final Due due = new Due();
    private static final int FAR = Integer.MAX_VALUE;
    private static final int DEEP = Integer.MIN_VALUE;

    private interface Call {
        long on(HourEggs x);
    }

    private interface CallOf {
        long on(HourEggs x, int v);
    }

    public static void main(String[] args) {
        eggs();
        hensAndWorks();
        days();
        works();
        nests();
        told();
        foxes();
        texts();
        spots();
        sheets();
        copies();
        counts();
        orderOfEggs();
        orderOfSheets();
        orderOfCopy();
        others();
        due.end("RefusedTest");
    }

    /**
     * DAY 6; PLACE 7 is empty, WORK 2 is late, WORK 5 needs too much, SPOT 8 holds nothing, sheet 3 is MISSING, sheet 2
     * has no numbers.
     */
    private static HourEggs house() {
        HourEggs x = new HourEggs();
        x.go(5);
        for (int kind = 0; kind < 7; kind++) {
            x.egg(kind, 40 + kind, kind % 4);
        }
        x.hen(1, 0, 4);
        x.hen(1, 1, 2);
        x.go(1);
        for (int w = 0; w < 6; w++) {
            x.work(w, 0, 30 * w);
            x.work(w, 2, 5 + w);
            x.work(w, 3, 7 - w);
        }
        x.work(2, 1, 5);
        x.work(5, 0, 999);
        x.image();
        x.seed(77);
        x.change(2, 2, 12);
        for (int spot = 0; spot < 8; spot++) {
            x.hold(spot, spot);
        }
        x.sheet(0, 8, 3);
        x.write(0, 1, 9);
        x.sheet(1, 16, 40);
        x.write(1, 39, 700);
        x.sheet(2, 32, 0);
        Due.feed(x, "egg 7");
        x.of(7, 0);
        x.when(9999);
        x.as(8, 0);
        return x;
    }

    private static HourEggs full() {
        HourEggs x = house();
        x.egg(5, 9, 1);
        return x;
    }

    private static void refused(String name, long finding, Call call) {
        HourEggs x = house();
        int[] was = Told.statuses(x);
        int all = x.status(-1);
        due.is(name, call.on(x), finding);
        was[(int) (Due.BEYOND - finding)]++;
        due.is(name + ": counted once, as what it is", Arrays.equals(was, Told.statuses(x)) ? 1 : 0, 1);
        due.is(name + ": counted with all", x.status(-1), all + 1);
        due.is(name + ": changes nothing", Told.of(x).equals(Told.of(house())) ? 1 : 0, 1);
    }

    /** Taken from least to most, and BEYOND outside. */
    private static void bounds(String name, int least, int most, CallOf call) {
        int[] inside = {least, Math.min(least + 1, most), Math.max(most - 1, least), most};
        for (int v : inside) {
            long answer = call.on(house(), v);
            due.is(name + " " + v + " is taken, not " + answer, answer == Due.BEYOND ? 1 : 0, 0);
        }
        int[] outside = {
            least - 1, most + 1, least - 2, most + 2, least - 256, most + 256, least - 65536, most + 65536,
            DEEP, DEEP + 1, DEEP + Math.max(least, 0), FAR - 1, FAR,
        };
        for (int v : outside) {
            refused(name + " " + v, Due.BEYOND, x -> call.on(x, v));
        }
    }

    private static void eggs() {
        bounds("2 kind", 0, 6, (x, v) -> x.egg(v, 50, 0));
        bounds("2 size", 1, 99, (x, v) -> x.egg(0, v, 0));
        bounds("2 nest", 0, 3, (x, v) -> x.egg(0, 50, v));
        bounds("3 egg", 0, 6, (x, v) -> x.of(v, 0));
        bounds("3 what", 0, 5, (x, v) -> x.of(0, v));
        bounds("4 egg", 0, 6, (x, v) -> x.change(v, 1, 50));
        bounds("4 what", 0, 3, (x, v) -> x.change(0, v, 1));
        bounds("4 KIND", 0, 6, (x, v) -> x.change(0, 0, v));
        bounds("4 SIZE", 1, 99, (x, v) -> x.change(0, 1, v));
        bounds("4 AGE", 0, 99, (x, v) -> x.change(0, 2, v));
        bounds("4 NEST", 0, 3, (x, v) -> x.change(0, 3, v));
        bounds("9 egg", 0, 6, (x, v) -> x.spend(v, 0));
        bounds("9 work", 0, 5, (x, v) -> x.spend(0, v));
        bounds("10 egg", 0, 6, (x, v) -> x.broken(v));
    }

    private static void hensAndWorks() {
        bounds("5 hen", 0, 3, (x, v) -> x.hen(v, 0, 1));
        bounds("5 what", 0, 3, (x, v) -> x.hen(0, v, 1));
        bounds("5 EVERY", 0, 30, (x, v) -> x.hen(0, 0, v));
        bounds("5 KIND", 0, 6, (x, v) -> x.hen(0, 1, v));
        bounds("5 SIZE", 1, 99, (x, v) -> x.hen(0, 2, v));
        bounds("5 NEST", 0, 3, (x, v) -> x.hen(0, 3, v));
        bounds("6 work", 0, 5, (x, v) -> x.work(v, 0, 1));
        bounds("6 what", 0, 3, (x, v) -> x.work(0, v, 1));
        bounds("6 NEED", 0, 999, (x, v) -> x.work(0, 0, v));
        bounds("6 DUE", 0, 99999, (x, v) -> x.work(0, 1, v));
        bounds("6 WORTH", 0, 99, (x, v) -> x.work(0, 2, v));
        bounds("6 GOT", -9999, 9999, (x, v) -> x.work(0, 3, v));
        bounds("7 hen", 0, 3, (x, v) -> x.henOf(v, 0));
        bounds("7 what", 0, 3, (x, v) -> x.henOf(0, v));
        bounds("8 work", 0, 5, (x, v) -> x.workOf(v, 0));
        bounds("8 what", 0, 4, (x, v) -> x.workOf(0, v));
    }

    private static void days() {
        bounds("11 n", 1, 60, (x, v) -> x.go(v));
        bounds("12 what", 0, 4, (x, v) -> x.now(v));
        bounds("13 n", 0, 100, (x, v) -> x.ahead(v));
        bounds("14 n", 0, 100, (x, v) -> x.spoils(v));
        bounds("15 egg", 0, 6, (x, v) -> x.ripe(v));
        bounds("16 egg", 0, 6, (x, v) -> x.lasts(v));
        bounds("17 v", 0, 9999, (x, v) -> x.when(v));
        bounds("18 egg", 0, 6, (x, v) -> x.kindFor(v, 0));
        bounds("18 n", 0, 100, (x, v) -> x.kindFor(0, v));
        bounds("19 hen", 0, 3, (x, v) -> x.everyFor(v, 0));
        bounds("19 n", 0, 60, (x, v) -> x.everyFor(0, v));
    }

    private static void works() {
        bounds("20 work", 0, 5, (x, v) -> x.fewest(v));
        bounds("21 work", 0, 5, (x, v) -> x.thrifty(v));
        bounds("24 work", 0, 5, (x, v) -> x.soonest(v));
        refused("17 NONE", Due.NONE, x -> x.when(9999));
        refused("20 NONE: it needs too much", Due.NONE, x -> x.fewest(5));
        refused("21 NONE: it needs too much", Due.NONE, x -> x.thrifty(5));
        refused("24 NONE: it needs too much", Due.NONE, x -> x.soonest(5));
    }

    private static void nests() {
        bounds("25 nest", 0, 3, (x, v) -> x.nest(v));
        bounds("29 v", -9999, 9999, (x, v) -> x.sets(v));
    }

    private static void told() {
        bounds("30 sheet", 0, 2, RefusedTest::agesOrMissing);
        bounds("31 sheet", 0, 2, RefusedTest::youngestOrMissing);
        bounds("30 egg", 0, 6, (x, v) -> x.ages(0, v));
        bounds("31 egg", 0, 6, (x, v) -> x.youngest(0, v));
    }

    /** Sheet 3 is MISSING, so that it is no sheet just outside; any other one is BEYOND. */
    private static long agesOrMissing(HourEggs x, int s) {
        return x.ages(s == 3 ? 4 : s, 0);
    }

    private static long youngestOrMissing(HourEggs x, int s) {
        return x.youngest(s == 3 ? 4 : s, 0);
    }

    private static void foxes() {
        bounds("32 n", 1, 20, (x, v) -> x.foxes(v));
        bounds("33 n", 0, 20, (x, v) -> x.odds(v, 0));
        bounds("33 n", 0, 20, (x, v) -> x.odds(v, 1));
        bounds("33 what", 0, 1, (x, v) -> x.odds(20, v));
        int[] any = {DEEP, -1000001, -1000007, -1, 0, 1, FAR};
        for (int v : any) {
            HourEggs x = house();
            int findings = x.status(-1);
            x.seed(v);
            due.is("48 z may be any int", x.count(6), v);
            due.is("34 what it was, any int", x.seed(1), v);
            due.is("34 that is no finding", x.status(-1), findings);
        }
    }

    private static void texts() {
        bounds("35 n", 1, 4, (x, v) -> x.feed(0x20202020, v));
        int[] any = {DEEP, -1, 0, 1, FAR};
        for (int v : any) {
            due.is("35 any number", house().feed(v, 4), 9);
        }
    }

    private static void spots() {
        bounds("38 spot", 0, 9, (x, v) -> x.hold(v, 0));
        bounds("38 egg", -1, 7, (x, v) -> x.hold(9, v));
        bounds("39 spot", 0, 9, (x, v) -> x.as(v, 0));
        bounds("39 kind", 0, 6, (x, v) -> x.as(1, v));
        refused("39 MISSING: it holds nothing", Due.MISSING, x -> x.as(8, 0));
        refused("39 MISSING: the PLACE is empty", Due.MISSING, x -> x.as(7, 0));
        refused("39 KIND", Due.KIND, x -> x.as(1, 6));
    }

    private static void sheets() {
        bounds("40 s", 0, 3, (x, v) -> x.sheet(v, 8, 1));
        bounds("40 s with bits 0", 0, 3, (x, v) -> x.sheet(v, 0, 1));
        for (int bits : new int[] {-32, -16, -8, -1, 1, 2, 4, 7, 9, 12, 15, 17, 24, 31, 33, 40, 64, 256, 264, DEEP, FAR}) {
            refused("40 bits " + bits, Due.BEYOND, x -> x.sheet(0, bits, 1));
            refused("40 bits " + bits + " with n 0", Due.BEYOND, x -> x.sheet(0, bits, 0));
        }
        for (int bits : new int[] {0, 8, 16, 32}) {
            for (int n : new int[] {0, 1, 39, 40}) {
                due.is("40 n of " + bits, house().sheet(0, bits, n), bits == 0 ? 0 : n);
            }
            for (int n : new int[] {-1, -2, -256, DEEP, DEEP + 1, DEEP + 40}) {
                refused("40 SIZE, n " + n + " of " + bits, Due.SIZE, x -> x.sheet(0, bits, n));
            }
            for (int n : new int[] {41, 42, 256, 65536, FAR}) {
                refused("40 BEYOND, n " + n + " of " + bits, Due.BEYOND, x -> x.sheet(0, bits, n));
            }
        }
        bounds("41 s", 0, 1, (x, v) -> x.write(v == 3 ? 4 : v, 0, 1));
        bounds("41 i of 3", 0, 2, (x, v) -> x.write(0, v, 1));
        bounds("41 i of 40", 0, 39, (x, v) -> x.write(1, v, 1));
        refused("41 a sheet of no numbers has no number 0", Due.BEYOND, x -> x.write(2, 0, 1));
        bounds("43 s", 0, 2, (x, v) -> x.load(v == 3 ? 4 : v));
        bounds("44 s", 0, 2, (x, v) -> x.judge(v == 3 ? 4 : v));
        refused("30 MISSING", Due.MISSING, x -> x.ages(3, 0));
        refused("31 MISSING", Due.MISSING, x -> x.youngest(3, 0));
        refused("41 MISSING", Due.MISSING, x -> x.write(3, 0, 0));
        refused("43 MISSING", Due.MISSING, x -> x.load(3));
        refused("44 MISSING", Due.MISSING, x -> x.judge(3));
    }

    private static void copies() {
        bounds("42 s", 0, 2, (x, v) -> x.copy(v == 3 ? 4 : v, 0, 0, 0, 0));
        bounds("42 t", 0, 2, (x, v) -> x.copy(0, 0, v == 3 ? 4 : v, 0, 0));
        bounds("42 from, none", 0, 3, (x, v) -> x.copy(0, v, 0, 0, 0));
        bounds("42 to, none", 0, 3, (x, v) -> x.copy(0, 0, 0, v, 0));
        bounds("42 from, one", 0, 2, (x, v) -> x.copy(0, v, 0, 0, 1));
        bounds("42 to, one", 0, 2, (x, v) -> x.copy(0, 0, 0, v, 1));
        bounds("42 n", 0, 3, (x, v) -> x.copy(0, 0, 0, 0, v));
        bounds("42 n from 1", 0, 2, (x, v) -> x.copy(0, 1, 0, 0, v));
        bounds("42 n to 1", 0, 2, (x, v) -> x.copy(0, 0, 0, 1, v));
        bounds("42 n of 40", 0, 40, (x, v) -> x.copy(1, 0, 1, 0, v));
        bounds("42 n from 40 of 40", 0, 0, (x, v) -> x.copy(1, 40, 1, 0, v));
        bounds("42 n of none", 0, 0, (x, v) -> x.copy(2, 0, 2, 0, v));
        refused("42 from and n are 2 by wrapping around", Due.BEYOND, x -> x.copy(0, FAR, 0, 0, DEEP + 3));
        refused("42 from and n are above all ints", Due.BEYOND, x -> x.copy(0, 1, 0, 0, FAR));
        refused("42 to and n are above all ints", Due.BEYOND, x -> x.copy(0, 0, 0, 1, FAR));
        refused("42 s is MISSING", Due.MISSING, x -> x.copy(3, 0, 0, 0, 0));
        refused("42 t is MISSING", Due.MISSING, x -> x.copy(0, 0, 3, 0, 0));
        refused("42 both are MISSING", Due.MISSING, x -> x.copy(3, 0, 3, 0, 0));
        refused("42 8 and 16 bits", Due.KIND, x -> x.copy(0, 0, 1, 0, 1));
        refused("42 16 and 8 bits", Due.KIND, x -> x.copy(1, 0, 0, 0, 1));
        refused("42 8 and 32 bits, none", Due.KIND, x -> x.copy(0, 0, 2, 0, 0));
        refused("42 32 and 16 bits, none", Due.KIND, x -> x.copy(2, 0, 1, 0, 0));
    }

    private static void counts() {
        bounds("48 what", 0, 7, (x, v) -> x.count(v));
        bounds("49 which", -1, 6, (x, v) -> x.status(v));
        for (int which : new int[] {-2, 7, DEEP, FAR}) {
            HourEggs x = house();
            int beyond = x.status(0);
            due.is("49 another one is BEYOND", x.status(which), Due.BEYOND);
            due.is("49 and counted from then on", x.status(0), beyond + 1);
        }
    }

    private static void orderOfEggs() {
        due.is("2 FULL", full().egg(0, 1, 0), Due.FULL);
        due.is("2 BEYOND ahead of FULL: kind", full().egg(7, 1, 0), Due.BEYOND);
        due.is("2 BEYOND ahead of FULL: kind", full().egg(-1, 1, 0), Due.BEYOND);
        due.is("2 BEYOND ahead of FULL: size", full().egg(0, 0, 0), Due.BEYOND);
        due.is("2 BEYOND ahead of FULL: size", full().egg(0, 100, 0), Due.BEYOND);
        due.is("2 BEYOND ahead of FULL: nest", full().egg(0, 1, 4), Due.BEYOND);
        due.is("2 BEYOND ahead of FULL: nest", full().egg(0, 1, -1), Due.BEYOND);
        HourEggs x = full();
        String was = Told.of(full());
        x.egg(0, 1, 0);
        due.is("2 FULL changes nothing", Told.of(x).equals(was) ? 1 : 0, 1);
        refused("9 STATE", Due.STATE, y -> y.spend(0, 2));
        refused("9 BEYOND ahead of STATE: an empty PLACE", Due.BEYOND, y -> y.spend(7, 2));
        refused("9 BEYOND ahead of STATE: no such PLACE", Due.BEYOND, y -> y.spend(8, 2));
        refused("9 BEYOND ahead of STATE: no such PLACE", Due.BEYOND, y -> y.spend(-1, 2));
        refused("17 BEYOND ahead of NONE", Due.BEYOND, y -> y.when(10000));
        refused("20 BEYOND ahead of NONE", Due.BEYOND, y -> y.fewest(6));
        refused("31 BEYOND ahead of NONE", Due.BEYOND, y -> y.youngest(0, 7));
        refused("31 NONE", Due.NONE, y -> y.youngest(0, 0));
        refused("20 NONE above the DUE", Due.NONE, y -> y.fewest(2));
        refused("21 NONE above the DUE", Due.NONE, y -> y.thrifty(2));
        refused("24 NONE above the DUE", Due.NONE, y -> y.soonest(2));
    }

    private static void orderOfSheets() {
        refused("30 BEYOND ahead of MISSING", Due.BEYOND, x -> x.ages(4, 7));
        refused("30 MISSING ahead of BEYOND", Due.MISSING, x -> x.ages(3, 7));
        refused("30 MISSING ahead of BEYOND", Due.MISSING, x -> x.ages(3, 8));
        refused("30 BEYOND, an empty PLACE", Due.BEYOND, x -> x.ages(0, 7));
        refused("31 MISSING ahead of BEYOND", Due.MISSING, x -> x.youngest(3, 7));
        refused("31 MISSING ahead of BEYOND", Due.MISSING, x -> x.youngest(3, -1));
        refused("35 BEYOND", Due.BEYOND, x -> x.feed(0, 5));
        refused("39 BEYOND ahead of MISSING: kind", Due.BEYOND, x -> x.as(8, 7));
        refused("39 BEYOND ahead of MISSING: kind", Due.BEYOND, x -> x.as(7, -1));
        refused("39 BEYOND ahead of KIND", Due.BEYOND, x -> x.as(1, 7));
        refused("39 MISSING ahead of KIND", Due.MISSING, x -> x.as(7, 6));
        refused("40 BEYOND ahead of SIZE: no such sheet", Due.BEYOND, x -> x.sheet(4, 8, -1));
        refused("40 BEYOND ahead of SIZE: no such sheet", Due.BEYOND, x -> x.sheet(-1, 0, -1));
        refused("40 BEYOND ahead of SIZE: other bits", Due.BEYOND, x -> x.sheet(0, 24, -1));
        refused("40 SIZE", Due.SIZE, x -> x.sheet(0, 0, -1));
        refused("41 BEYOND ahead of MISSING", Due.BEYOND, x -> x.write(4, 0, 0));
        refused("41 MISSING ahead of BEYOND", Due.MISSING, x -> x.write(3, -1, 0));
        refused("41 MISSING ahead of BEYOND", Due.MISSING, x -> x.write(3, 40, 0));
    }

    private static void orderOfCopy() {
        refused("42 BEYOND ahead of MISSING: t", Due.BEYOND, x -> x.copy(3, 0, 4, 0, 0));
        refused("42 BEYOND ahead of MISSING: s", Due.BEYOND, x -> x.copy(-1, 0, 3, 0, 0));
        refused("42 MISSING ahead of KIND: t", Due.MISSING, x -> x.copy(0, 0, 3, 0, 0));
        refused("42 MISSING ahead of KIND: s", Due.MISSING, x -> x.copy(3, 0, 1, 0, 0));
        refused("42 MISSING ahead of BEYOND: from", Due.MISSING, x -> x.copy(3, -1, 0, 0, 0));
        refused("42 MISSING ahead of BEYOND: to", Due.MISSING, x -> x.copy(0, 0, 3, -1, 0));
        refused("42 MISSING ahead of BEYOND: n", Due.MISSING, x -> x.copy(0, 0, 3, 0, -1));
        refused("42 KIND ahead of BEYOND: from", Due.KIND, x -> x.copy(0, -1, 1, 0, 1));
        refused("42 KIND ahead of BEYOND: to", Due.KIND, x -> x.copy(0, 0, 1, -1, 1));
        refused("42 KIND ahead of BEYOND: n", Due.KIND, x -> x.copy(0, 0, 1, 0, -1));
        refused("42 KIND ahead of BEYOND: not so many", Due.KIND, x -> x.copy(0, 0, 1, 0, 4));
        refused("42 KIND ahead of BEYOND: not so many", Due.KIND, x -> x.copy(1, 0, 2, 0, 1));
    }

    /** Calls whose finding hangs on more than the house above. */
    private static void others() {
        HourEggs x = new HourEggs();
        due.is("46 NONE", x.undo(), Due.NONE);
        due.is("46 NONE changes nothing", Told.of(x).equals(Told.of(new HourEggs())) ? 1 : 0, 1);
        for (int n = 1; n <= 4; n++) {
            HourEggs tape = new HourEggs();
            Due.feed(tape, "egg 5 aged 7 in 2" + " ".repeat(103 - n) + ";");
            due.is("35 as many as there may be yet", tape.count(5), 121 - n);
            due.is("35 FULL, " + n, tape.feed(0x39393939, n), Due.FULL);
            due.is("35 BEYOND ahead of FULL", tape.feed(0x39393939, 0), Due.BEYOND);
            due.is("35 BEYOND ahead of FULL", tape.feed(0x39393939, 5), Due.BEYOND);
            due.is("35 nothing is fed", tape.count(5), 121 - n);
            due.is("35 nothing is fed", tape.text(), -1 - (121 - n));
            due.is("49 FULL", tape.status(1), 1);
            HourEggs just = new HourEggs();
            Due.feed(just, "egg 5" + " ".repeat(115 - n));
            due.is("35 just 120, by " + n, just.feed(0x20202020, n), 120);
            due.is("37 just 120", just.text(), 1);
        }
    }
}
