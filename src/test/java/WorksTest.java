/** Promises 20 to 24: works. */
public final class WorksTest {
    private static final Due due = new Due();

    public static void main(String[] args) {
        fewest();
        thrifty();
        negative();
        best();
        bestOfShared();
        soonest();
        due.end("WorksTest");
    }

    private static HourEggs eggs(int... sizes) {
        HourEggs x = new HourEggs();
        for (int i = 0; i < sizes.length; i++) {
            x.egg(0, sizes[i], 0);
        }
        return x;
    }

    private static void fewest() {
        HourEggs x = eggs(10, 20, 30, 30, 5);
        due.is("20 DONE already", x.fewest(0), 0);
        x.work(0, 0, 30);
        due.is("20 one, the least", x.fewest(0), 4);
        x.work(0, 0, 31);
        due.is("20 two, the least", x.fewest(0), 5);
        x.work(0, 0, 41);
        due.is("20 two", x.fewest(0), 6);
        x.work(0, 0, 95);
        due.is("20 all", x.fewest(0), 31);
        x.work(0, 0, 96);
        due.is("20 NONE", x.fewest(0), Due.NONE);
        x.work(0, 3, 66);
        due.is("20 GOT counts", x.fewest(0), 4);
        due.is("20 work 6", x.fewest(6), Due.BEYOND);
        due.is("20 work -1", x.fewest(-1), Due.BEYOND);
        x.work(0, 1, 0);
        due.is("20 on its DUE", x.fewest(0), 4);
        x.go(1);
        due.is("20 above its DUE", x.fewest(0), Due.NONE);
        x.work(0, 3, 96);
        due.is("20 DONE above its DUE", x.fewest(0), 0);
        due.is("20 nothing changes", x.now(1), 31);
        due.is("20 status", x.status(3), 2);
    }

    private static void thrifty() {
        HourEggs x = eggs(40, 10, 20, 30, 10);
        due.is("21 DONE already", x.thrifty(0), 0);
        x.work(0, 0, 30);
        due.is("21 of several the least", x.thrifty(0), 6);
        x.work(0, 0, 35);
        due.is("21 40 by the least", x.thrifty(0), 1);
        x.work(0, 0, 110);
        due.is("21 all", x.thrifty(0), 31);
        x.work(0, 0, 111);
        due.is("21 NONE", x.thrifty(0), Due.NONE);
        due.is("21 work 6", x.thrifty(6), Due.BEYOND);
        due.is("21 work -1", x.thrifty(-1), Due.BEYOND);
        x.work(0, 0, 30);
        x.work(0, 1, 0);
        x.go(1);
        due.is("21 above its DUE", x.thrifty(0), Due.NONE);
        x.work(0, 3, 30);
        due.is("21 DONE above its DUE", x.thrifty(0), 0);
    }

    private static void negative() {
        HourEggs x = new HourEggs();
        x.egg(4, 40, 0);
        x.egg(0, 50, 0);
        x.egg(0, 30, 0);
        x.work(0, 0, 25);
        // -25 and 50 are 25: the least that does.
        due.is("21 with a ROTTEN one", x.thrifty(0), 3);
        due.is("20 without one", x.fewest(0), 2);
        x.work(1, 3, 60);
        due.is("21 a DONE one can do with less", x.thrifty(1), 1);
        due.is("20 a DONE one needs none", x.fewest(1), 0);
        x.work(1, 1, 0);
        x.go(1);
        due.is("21 none can be spent", x.thrifty(1), 0);
    }

    private static void best() {
        HourEggs x = eggs(10, 20, 30);
        due.is("22 no WORTH", x.best(), 0);
        due.is("23 of several the least", x.bestWorks(), 0);
        x.work(0, 2, 7);
        due.is("22 DONE ones", x.best(), 7);
        due.is("23 DONE ones", x.bestWorks(), 1);
        x.work(1, 0, 60);
        x.work(1, 2, 9);
        x.work(2, 0, 30);
        x.work(2, 2, 5);
        x.work(3, 0, 30);
        x.work(3, 2, 5);
        due.is("22 two of 5", x.best(), 17);
        due.is("23 two of 5", x.bestWorks(), 13);
        x.work(1, 2, 10);
        due.is("23 as much, the least", x.bestWorks(), 3);
        x.work(3, 0, 31);
        x.work(1, 2, 9);
        due.is("22 60 is more than 30 and 31", x.best(), 16);
        due.is("23 60", x.bestWorks(), 3);
        x.work(1, 1, 0);
        x.work(0, 1, 0);
        x.go(1);
        // 9, 19, 29 now; above their DUE a DONE one counts, another one can't be DONE.
        due.is("22 above its DUE", x.best(), 12);
        due.is("23 above its DUE", x.bestWorks(), 9 - 4);
        x.work(2, 3, -9999);
        due.is("22 far below", x.best(), 12);
        due.is("23 far below", x.bestWorks(), 9);
        due.is("22 nothing changes", x.now(1), 7);
    }

    private static void bestOfShared() {
        HourEggs x = eggs(50, 50, 20, 20, 20, 20, 20, 20);
        for (int w = 0; w < 6; w++) {
            x.work(w, 0, 40);
            x.work(w, 2, 99);
        }
        due.is("23 told first", x.bestWorks(), 31);
        due.is("22 five of six", x.best(), 495);
        due.is("23 five of six, the least", x.bestWorks(), 31);
        x.work(5, 0, 0);
        due.is("22 all", x.best(), 594);
        due.is("23 all", x.bestWorks(), 63);
        x.change(0, 0, 4);
        due.is("22 four and one that is DONE", x.best(), 495);
        due.is("23 four and one that is DONE", x.bestWorks(), 47);
    }

    /** An EGG is laid on DAY 90, when DAY is 29 yet. */
    private static HourEggs laidBehind61() {
        HourEggs x = new HourEggs();
        x.go(29);
        x.hen(0, 0, 30);
        x.hen(1, 0, 18);
        x.work(0, 0, 60 + 30 + 60 + 42);
        due.is("13 not behind 60", x.ahead(60) < 192 ? 1 : 0, 1);
        due.is("13 behind 61", x.ahead(61), 192);
        return x;
    }

    private static void soonest() {
        HourEggs x = new HourEggs();
        due.is("24 DONE", x.soonest(0), 0);
        x.work(0, 0, 60);
        due.is("24 NONE", x.soonest(0), Due.NONE);
        x.hen(0, 0, 5);
        due.is("24 the first EGG", x.soonest(0), 5);
        x.work(0, 0, 61);
        due.is("24 two EGGS", x.soonest(0), 10);
        x.work(0, 1, 10);
        due.is("24 on its DUE", x.soonest(0), 10);
        x.work(0, 1, 9);
        due.is("24 no later than its DUE", x.soonest(0), Due.NONE);
        x.work(0, 3, 1);
        due.is("24 GOT counts", x.soonest(0), 5);
        due.is("24 work 6", x.soonest(6), Due.BEYOND);
        due.is("24 work -1", x.soonest(-1), Due.BEYOND);
        due.is("24 nothing changes", x.now(0), 0);

        HourEggs rotten = new HourEggs();
        rotten.egg(4, 40, 0);
        due.is("24 a ROTTEN one is spent too", rotten.soonest(0), 10);
        rotten.work(0, 3, 100);
        due.is("24 and does no harm then", rotten.soonest(0), 0);

        HourEggs far = new HourEggs();
        far.hen(0, 0, 30);
        far.work(0, 0, 60 + 30);
        due.is("24 behind 60", far.soonest(0), 60);
        due.is("24 behind 61", laidBehind61().soonest(0), Due.NONE);
        far.go(30);
        far.work(1, 1, 29);
        due.is("24 DUE is gone by", far.soonest(1), Due.NONE);
    }
}
