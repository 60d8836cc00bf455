/** Promises 30 and 31: ages that fit told minutes. */
public final class ToldTest {
    private static final Due due = new Due();

    public static void main(String[] args) {
        wrong();
        fits();
        gone();
        days();
        narrow();
        due.end("ToldTest");
    }

    private static void both(String call, HourEggs x, int egg, long ages, long youngest) {
        due.is("30 " + call, x.ages(0, egg), ages);
        due.is("31 " + call, x.youngest(0, egg), youngest);
    }

    private static void wrong() {
        HourEggs x = new HourEggs();
        due.is("30 sheet -1", x.ages(-1, 0), Due.BEYOND);
        due.is("30 sheet 4", x.ages(4, 0), Due.BEYOND);
        due.is("31 sheet -1", x.youngest(-1, 0), Due.BEYOND);
        due.is("31 sheet 4", x.youngest(4, 0), Due.BEYOND);
        both("MISSING is asked before the EGG", x, 0, Due.MISSING, Due.MISSING);
        Due.sheet(x, 0);
        both("empty", x, 0, Due.BEYOND, Due.BEYOND);
        both("place 8", x, 8, Due.BEYOND, Due.BEYOND);
        both("place -1", x, -1, Due.BEYOND, Due.BEYOND);
        x.egg(0, 1, 0);
        both("nothing told", x, 0, 100, 0);
        due.is("30 sheet 4", x.ages(4, 0), Due.BEYOND);
        due.is("31 sheet -1", x.youngest(-1, 0), Due.BEYOND);
        x.change(0, 1, 99);
        Due.sheet(x, 0, 0);
        both("the oldest", x, 0, 1, 99);
        due.is("30 status", x.status(5), 2);
    }

    private static void fits() {
        HourEggs x = new HourEggs();
        x.egg(0, 50, 0);
        x.change(0, 2, 7);
        Due.sheet(x, 0, 20);
        both("one", x, 0, 1, 30);
        Due.sheet(x, 0, 0);
        both("from 50 on", x, 0, 50, 50);
        Due.sheet(x, 0, 20, 19);
        both("gone behind a DAY", x, 0, 0, Due.NONE);
        Due.sheet(x, 0, 20, 0);
        both("gone and told so", x, 0, 1, 30);
        Due.sheet(x, 0, 25, 24, 23);
        both("three", x, 0, 1, 25);
        Due.sheet(x, 0, -1, -1, 23);
        both("any", x, 0, 1, 25);
        Due.sheet(x, 0, 51);
        both("NONE", x, 0, 0, Due.NONE);
        due.is("its AGE is as it was", x.of(0, 2), 7);
    }

    private static void gone() {
        HourEggs x = new HourEggs();
        x.egg(5, 50, 0);
        Due.sheet(x, 0, -1, 0);
        both("WIND: gone from 5 on; none is of 0 before", x, 0, 95, 5);
        x.change(0, 0, 4);
        x.change(0, 1, 12);
        Due.sheet(x, 0, -1, -1, 0);
        // ROTTEN of 12: 3 less its AGE, to AGE 12; behind 2 DAYS 0 with AGE 1, or gone from 8 on.
        both("ROTTEN", x, 0, 1 + 92, 1);
        Due.sheet(x, 0, -2);
        both("below 0", x, 0, 1, 5);
        Due.sheet(x, 0, -1);
        both("-1 is any", x, 0, 100, 0);
    }

    private static void days() {
        HourEggs x = new HourEggs();
        x.egg(1, 50, 0);
        x.go(2);
        Due.sheet(x, 0, 40, 39, 48, 37);
        both("LEAP as DAYS go by", x, 0, 1, 10);
        Due.sheet(x, 0, 40, 39, 38, 37);
        both("LEAP without its 10", x, 0, 0, Due.NONE);
        HourEggs warm = new HourEggs();
        warm.egg(2, 10, 0);
        Due.sheet(warm, 0, 30);
        both("WARM: 30 from 15 on", warm, 0, 85, 15);
        Due.sheet(warm, 0, 30, 30);
        both("WARM: 30 while it keeps", warm, 0, 60 - 15, 15);
        Due.sheet(warm, 0, 30, 0);
        both("WARM: gone", warm, 0, 40, 60);
    }

    private static void narrow() {
        HourEggs x = new HourEggs();
        x.egg(6, 99, 0);
        x.sheet(0, 8, 1);
        x.write(0, 0, 218);
        both("218 is -38 with 8 bits", x, 0, 0, Due.NONE);
        x.write(0, 0, 255);
        both("255 is -1 with 8 bits", x, 0, 100, 0);
        x.sheet(0, 16, 40);
        for (int i = 0; i < 40; i++) {
            x.write(0, i, -1);
        }
        x.write(0, 0, 218);
        both("218", x, 0, 1, 0);
        x.write(0, 39, 0);
        both("gone behind 39", x, 0, 1, 0);
    }
}
