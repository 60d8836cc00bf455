/** Promises 1 to 10: eggs, hens, works. */
public final class EggsTest {
    private static final Due due = new Due();

    public static void main(String[] args) {
        newObject();
        egg();
        minutesOfKinds();
        minutesByAge();
        keeps();
        of();
        change();
        hen();
        work();
        spend();
        broken();
        due.end("EggsTest");
    }

    private static void newObject() {
        HourEggs x = new HourEggs();
        for (int p = 0; p < 8; p++) {
            due.is("1 of " + p, x.of(p, 0), Due.BEYOND);
        }
        for (int h = 0; h < 4; h++) {
            due.is("1 EVERY", x.henOf(h, 0), 0);
            due.is("1 KIND", x.henOf(h, 1), 0);
            due.is("1 SIZE", x.henOf(h, 2), 60);
            due.is("1 NEST", x.henOf(h, 3), h);
        }
        for (int w = 0; w < 6; w++) {
            due.is("1 NEED", x.workOf(w, 0), 0);
            due.is("1 DUE", x.workOf(w, 1), 99999);
            due.is("1 WORTH", x.workOf(w, 2), 0);
            due.is("1 GOT", x.workOf(w, 3), 0);
            due.is("1 DONE", x.workOf(w, 4), 1);
        }
        for (int s = 0; s < 4; s++) {
            due.is("1 sheet", x.load(s), Due.MISSING);
        }
        for (int s = 0; s < 10; s++) {
            due.is("1 spot", x.as(s, 0), Due.MISSING);
        }
        due.is("1 status", x.status(-1), 8 + 4 + 10);
        int[] counts = {0, 0, 6, 0, 0, 0, 1, 0};
        for (int what = 0; what < counts.length; what++) {
            due.is("1 count " + what, x.count(what), counts[what]);
        }
        due.is("1 undo", x.undo(), Due.NONE);
        due.is("1 tear", x.tear(), 0);
    }

    private static void egg() {
        HourEggs x = new HourEggs();
        due.is("2 kind -1", x.egg(-1, 1, 0), Due.BEYOND);
        due.is("2 kind 7", x.egg(7, 1, 0), Due.BEYOND);
        due.is("2 size 0", x.egg(0, 0, 0), Due.BEYOND);
        due.is("2 size 100", x.egg(0, 100, 0), Due.BEYOND);
        due.is("2 nest -1", x.egg(0, 1, -1), Due.BEYOND);
        due.is("2 nest 4", x.egg(0, 1, 4), Due.BEYOND);
        due.is("2 none laid", x.now(1), 0);
        for (int p = 0; p < 8; p++) {
            due.is("2 place", x.egg(p % 7, p == 0 ? 1 : 99, p % 4), p);
            due.is("2 KIND", x.of(p, 0), p % 7);
            due.is("2 SIZE", x.of(p, 1), p == 0 ? 1 : 99);
            due.is("2 AGE", x.of(p, 2), 0);
            due.is("2 NEST", x.of(p, 3), p % 4);
        }
        due.is("2 full", x.egg(0, 1, 0), Due.FULL);
        due.is("2 BEYOND is asked first", x.egg(0, 100, 0), Due.BEYOND);
        x.broken(5);
        x.broken(2);
        due.is("2 least empty", x.egg(6, 3, 3), 2);
        due.is("2 next empty", x.egg(6, 3, 3), 5);
    }

    private static void minutesOfKinds() {
        HourEggs x = new HourEggs();
        int[] onDay0 = {50, 60, 50, 35, -35, 25, 120};
        int[] onDay1 = {49, 49, 51, 36, -36, 24, 98};
        int[] onDay4 = {46, 56, 54, 39, -39, 23, 112};
        for (int kind = 0; kind < 7; kind++) {
            x.egg(kind, 50, 0);
            due.is("3 MINUTES on DAY 0 of " + kind, x.of(kind, 4), onDay0[kind]);
        }
        x.go(1);
        for (int kind = 0; kind < 7; kind++) {
            due.is("3 MINUTES on DAY 1 of " + kind, x.of(kind, 4), onDay1[kind]);
        }
        x.go(3);
        for (int kind = 0; kind < 7; kind++) {
            due.is("3 MINUTES on DAY 4 of " + kind, x.of(kind, 4), onDay4[kind]);
        }
    }

    private static void minutesByAge() {
        HourEggs x = new HourEggs();
        int[] kinds = {0, 1, 2, 3, 4, 5, 6};
        int[] sizes = {10, 10, 10, 10, 10, 11, 10};
        int[] at14 = {0, 10, 28, 13, -13, 0, 20};
        int[] at15 = {0, 10, 30, 15, -15, 0, 20};
        int[] at99 = {0, 10, 30, 15, -15, 0, 20};
        int[] at0 = {10, 20, 10, -5, 5, 5, 40};
        for (int k = 0; k < 7; k++) {
            x.egg(kinds[k], sizes[k], 0);
            due.is("3 AGE 0 of " + k, x.of(k, 4), at0[k]);
            x.change(k, 2, 14);
            due.is("3 AGE 14 of " + k, x.of(k, 4), at14[k]);
            x.change(k, 2, 15);
            due.is("3 AGE 15 of " + k, x.of(k, 4), at15[k]);
            x.change(k, 2, 99);
            due.is("3 AGE 99 of " + k, x.of(k, 4), at99[k]);
        }
    }

    private static void keeps() {
        HourEggs x = new HourEggs();
        int[] keeps = {30, 30, 60, 60, 9, 5, 20};
        for (int kind = 0; kind < 7; kind++) {
            x.egg(kind, 50, 0);
            due.is("3 KEEPS of " + kind, x.of(kind, 5), keeps[kind]);
        }
    }

    private static void of() {
        HourEggs x = new HourEggs();
        x.egg(3, 20, 2);
        due.is("3 place -1", x.of(-1, 0), Due.BEYOND);
        due.is("3 place 8", x.of(8, 0), Due.BEYOND);
        due.is("3 empty", x.of(1, 0), Due.BEYOND);
        due.is("3 what -1", x.of(0, -1), Due.BEYOND);
        due.is("3 what 6", x.of(0, 6), Due.BEYOND);
        due.is("3 far", x.of(Integer.MAX_VALUE, Integer.MIN_VALUE), Due.BEYOND);
        due.is("3 status", x.status(0), 6);
    }

    private static void change() {
        HourEggs x = new HourEggs();
        x.egg(3, 20, 2);
        due.is("4 KIND", x.change(0, 0, 6), 3);
        due.is("4 SIZE", x.change(0, 1, 99), 20);
        due.is("4 AGE", x.change(0, 2, 99), 0);
        due.is("4 NEST", x.change(0, 3, 0), 2);
        int[] is = {6, 99, 99, 0};
        int[] least = {0, 1, 0, 0};
        int[] most = {6, 99, 99, 3};
        for (int what = 0; what < 4; what++) {
            due.is("4 is", x.of(0, what), is[what]);
            due.is("4 below", x.change(0, what, least[what] - 1), Due.BEYOND);
            due.is("4 above", x.change(0, what, most[what] + 1), Due.BEYOND);
            due.is("4 unchanged", x.of(0, what), is[what]);
            due.is("4 least", x.change(0, what, least[what]), is[what]);
            due.is("4 most", x.change(0, what, most[what]), least[what]);
        }
        due.is("4 what -1", x.change(0, -1, 1), Due.BEYOND);
        due.is("4 what 4", x.change(0, 4, 1), Due.BEYOND);
        due.is("4 empty", x.change(1, 1, 1), Due.BEYOND);
        due.is("4 place 8", x.change(8, 1, 1), Due.BEYOND);
        due.is("4 place -1", x.change(-1, 1, 1), Due.BEYOND);
    }

    private static void hen() {
        HourEggs x = new HourEggs();
        int[] was = {0, 0, 60, 2};
        int[] least = {0, 0, 1, 0};
        int[] most = {30, 6, 99, 3};
        for (int what = 0; what < 4; what++) {
            due.is("5 was", x.hen(2, what, most[what]), was[what]);
            due.is("7 is", x.henOf(2, what), most[what]);
            due.is("5 above", x.hen(2, what, most[what] + 1), Due.BEYOND);
            due.is("5 below", x.hen(2, what, least[what] - 1), Due.BEYOND);
            due.is("5 least", x.hen(2, what, least[what]), most[what]);
            due.is("7 is least", x.henOf(2, what), least[what]);
            due.is("5 hen -1", x.hen(-1, what, 1), Due.BEYOND);
            due.is("5 hen 4", x.hen(4, what, 1), Due.BEYOND);
            due.is("7 hen -1", x.henOf(-1, what), Due.BEYOND);
            due.is("7 hen 4", x.henOf(4, what), Due.BEYOND);
        }
        due.is("5 what -1", x.hen(0, -1, 1), Due.BEYOND);
        due.is("5 what 4", x.hen(0, 4, 1), Due.BEYOND);
        due.is("7 what -1", x.henOf(0, -1), Due.BEYOND);
        due.is("7 what 4", x.henOf(0, 4), Due.BEYOND);
        due.is("5 others as at first", x.henOf(1, 2), 60);
    }

    private static void work() {
        HourEggs x = new HourEggs();
        int[] was = {0, 99999, 0, 0};
        int[] least = {0, 0, 0, -9999};
        int[] most = {999, 99999, 99, 9999};
        for (int what = 0; what < 4; what++) {
            due.is("6 was", x.work(5, what, most[what]), was[what]);
            due.is("8 is", x.workOf(5, what), most[what]);
            due.is("6 above", x.work(5, what, most[what] + 1), Due.BEYOND);
            due.is("6 below", x.work(5, what, least[what] - 1), Due.BEYOND);
            due.is("6 least", x.work(5, what, least[what]), most[what]);
            due.is("8 is least", x.workOf(5, what), least[what]);
            due.is("6 work -1", x.work(-1, what, 1), Due.BEYOND);
            due.is("6 work 6", x.work(6, what, 1), Due.BEYOND);
        }
        due.is("6 what 4", x.work(0, 4, 1), Due.BEYOND);
        due.is("6 what -1", x.work(0, -1, 1), Due.BEYOND);
        x.work(0, 0, 10);
        x.work(0, 3, 9);
        due.is("8 not DONE", x.workOf(0, 4), 0);
        x.work(0, 3, 10);
        due.is("8 DONE", x.workOf(0, 4), 1);
        due.is("8 what 5", x.workOf(0, 5), Due.BEYOND);
        due.is("8 what -1", x.workOf(0, -1), Due.BEYOND);
        due.is("8 work 6", x.workOf(6, 0), Due.BEYOND);
        due.is("8 work -1", x.workOf(-1, 4), Due.BEYOND);
    }

    private static void spend() {
        HourEggs x = new HourEggs();
        x.egg(0, 40, 0);
        x.egg(4, 40, 0);
        x.egg(0, 40, 0);
        x.egg(4, 40, 0);
        due.is("9 work 6", x.spend(0, 6), Due.BEYOND);
        due.is("9 work -1", x.spend(0, -1), Due.BEYOND);
        due.is("9 empty", x.spend(4, 0), Due.BEYOND);
        due.is("9 GOT", x.spend(0, 0), 40);
        due.is("9 its PLACE is empty", x.now(1), 14);
        due.is("9 below 0", x.spend(1, 0), 15);
        x.work(1, 3, 9970);
        due.is("9 held", x.spend(2, 1), 9999);
        x.work(2, 3, -9990);
        due.is("9 held below", x.spend(3, 2), -9999);
        x.egg(0, 40, 0);
        x.go(3);
        x.work(0, 1, 2);
        due.is("9 above its DUE", x.spend(0, 0), Due.STATE);
        due.is("9 BEYOND first", x.spend(1, 0), Due.BEYOND);
        due.is("9 still there", x.now(1), 1);
        x.work(0, 1, 3);
        due.is("9 on its DUE", x.spend(0, 0), 15 + 37);
    }

    private static void broken() {
        HourEggs x = new HourEggs();
        x.egg(4, 40, 0);
        x.egg(6, 1, 0);
        due.is("10 below 0", x.broken(0), -25);
        due.is("10 empty", x.broken(0), Due.BEYOND);
        due.is("10 double", x.broken(1), 22);
        due.is("10 place 8", x.broken(8), Due.BEYOND);
        due.is("10 place -1", x.broken(-1), Due.BEYOND);
        due.is("10 none", x.now(1), 0);
        due.is("10 not SPOILED", x.now(4), 0);
    }
}
