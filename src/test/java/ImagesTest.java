/** Promises 45 to 49: images, counts, findings. */
public final class ImagesTest {
    private static final Due due = new Due();

    public static void main(String[] args) {
        undo();
        latest();
        tear();
        count();
        status();
        due.end("ImagesTest");
    }

    private static void undo() {
        HourEggs x = new HourEggs();
        due.is("46 NONE", x.undo(), Due.NONE);
        x.egg(3, 40, 2);
        x.hen(1, 0, 9);
        x.work(1, 0, 8);
        x.seed(7);
        x.hold(4, 0);
        x.go(5);
        Due.feed(x, "egg");
        Due.sheet(x, 0, 5);
        due.is("45 image", x.image(), 1);
        x.change(0, 1, 7);
        x.egg(5, 1, 1);
        x.hen(1, 0, 0);
        x.work(1, 0, 0);
        x.seed(1);
        x.hold(4, -1);
        x.hold(5, 1);
        x.go(60);
        x.wipe();
        Due.feed(x, " 9 ");
        x.sheet(0, 8, 2);
        x.of(9, 9);
        due.is("12 SPOILED", x.now(4), 2);
        due.is("46 DAY", x.undo(), 5);
        due.is("DAY", x.count(0), 5);
        due.is("EGGS", x.now(1), 1);
        due.is("SIZE", x.of(0, 1), 40);
        due.is("AGE", x.of(0, 2), 5);
        due.is("SPOILED", x.now(4), 0);
        due.is("EVERY", x.henOf(1, 0), 9);
        due.is("NEED", x.workOf(1, 0), 8);
        due.is("z", x.count(6), 7);
        due.is("SPOTS", x.as(4, 2), 0);
        due.is("SPOTS that hold something", x.count(7), 1);
        due.is("THE TAPE is as it was", x.count(5), 3);
        due.is("SHEETS are as they were", x.load(0), 2);
        due.is("findings are not taken back", x.status(-1), 2);
        x.go(60);
        due.is("46 it stays", x.undo(), 5);
    }

    private static void latest() {
        HourEggs x = new HourEggs();
        x.image();
        x.go(1);
        due.is("45 again", x.image(), 1);
        x.go(1);
        due.is("46 the latest", x.undo(), 1);
        due.is("46 the latest stays", x.undo(), 1);
        x.egg(0, 9, 0);
        due.is("46 what is kept stays as it was", x.undo(), 1);
        due.is("no EGG", x.count(1), 0);
    }

    private static void tear() {
        HourEggs x = new HourEggs();
        due.is("47 nothing", x.tear(), 0);
        x.image();
        x.go(1);
        x.image();
        due.is("47 something", x.tear(), 1);
        due.is("47 nothing then", x.tear(), 0);
        due.is("46 NONE", x.undo(), Due.NONE);
        due.is("nothing else changes", x.count(0), 1);
    }

    private static void count() {
        HourEggs x = new HourEggs();
        x.egg(0, 10, 0);
        x.egg(5, 10, 0);
        x.egg(0, 20, 0);
        x.work(0, 0, 9);
        x.hold(0, 0);
        x.hold(9, 7);
        x.go(6);
        Due.feed(x, "abcd");
        long[] dues = {6, 2, 5, 1, 18, 4, 1, 2};
        for (int what = 0; what < dues.length; what++) {
            due.is("48 what " + what, x.count(what), dues[what]);
        }
        due.is("48 what -1", x.count(-1), Due.BEYOND);
        due.is("48 what 8", x.count(8), Due.BEYOND);
    }

    private static void status() {
        HourEggs x = new HourEggs();
        for (int which = -1; which < 7; which++) {
            due.is("49 none yet", x.status(which), 0);
        }
        x.of(0, 0);
        for (int i = 0; i < 8; i++) {
            x.egg(0, 1, 0);
        }
        x.egg(0, 1, 0);
        x.egg(0, 1, 0);
        x.hold(0, 0);
        for (int i = 0; i < 3; i++) {
            x.as(0, 1);
        }
        for (int i = 0; i < 4; i++) {
            x.when(9999);
        }
        x.go(1);
        x.work(0, 1, 0);
        for (int i = 0; i < 5; i++) {
            x.spend(0, 0);
        }
        for (int i = 0; i < 6; i++) {
            x.judge(0);
        }
        for (int i = 0; i < 7; i++) {
            x.sheet(0, 8, -1);
        }
        for (int which = 0; which < 7; which++) {
            due.is("49 which " + which, x.status(which), which + 1);
        }
        due.is("49 all", x.status(-1), 28);
        due.is("49 which 7", x.status(7), Due.BEYOND);
        due.is("49 counted from then on", x.status(0), 2);
        due.is("49 which -2", x.status(-2), Due.BEYOND);
        due.is("49 counted from then on", x.status(-1), 30);
    }
}
