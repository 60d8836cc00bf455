import java.util.Random;

/** Any calls at all: none throws, the same ones answer the same, and findings change nothing but status(). */
public final class WildTest {
    private static final Due due = new Due();
    private static final int CALLS = 50;
    private static final int SEED = 33;
    private static final int COUNT = 47;
    private static final int STATUS = 48;
    private static final int[] WILD = {
        Integer.MIN_VALUE, Integer.MIN_VALUE + 1, -1000001, -100000, -9999, -256, -41, -2, -1, 4, 6, 7, 8, 9, 10, 30, 31,
        32, 33, 40, 41, 60, 61, 99, 100, 101, 119, 120, 255, 999, 1000, 9999, 10000, 65535, 99999, 100000,
        Integer.MAX_VALUE - 1, Integer.MAX_VALUE,
    };
    private static final String[] TEXTS = {
        "egg 50", "leap 20 in 1", "warm 30 aged 20 in 2;hen 0 3", "borrowed 40", "rotten 60 aged 2 in 3", "wind 31",
        "double 9 in 2;work 0 60 due 9 worth 30", "work 1 100 worth 55", "hen 1 1;hen 2 7", "egg 5;", "hen 9", " # ",
    };

    public static void main(String[] args) {
        for (int seed = 0; seed < 400; seed++) {
            run(new Random(seed), seed % 3 == 0 ? 2 : 20);
        }
        due.end("WildTest");
    }

    private static void run(Random random, int wildness) {
        int[][] calls = new int[300][];
        for (int i = 0; i < calls.length; i++) {
            calls[i] = new int[] {
                random.nextInt(CALLS), argument(random, wildness), argument(random, wildness),
                argument(random, wildness), argument(random, wildness), argument(random, wildness),
            };
        }
        HourEggs x = new HourEggs();
        HourEggs same = new HourEggs();
        HourEggs withoutFindings = new HourEggs();
        int[] findings = new int[7];
        for (int[] c : calls) {
            long answer = call(x, c);
            due.is("the same call " + c[0], call(same, c), answer);
            boolean isZ = c[0] == SEED || c[0] == COUNT && c[1] == 6;
            if (answer < -1000000 && !isZ) {
                due.is("a known finding", answer >= Due.SIZE ? 1 : 0, 1);
                findings[(int) (Due.BEYOND - answer)]++;
            } else if (c[0] != STATUS) {
                due.is("without findings, call " + c[0], call(withoutFindings, c), answer);
            }
        }
        for (int which = 0; which < findings.length; which++) {
            due.is("49 which " + which, x.status(which), findings[which]);
            due.is("49 none were found", withoutFindings.status(which), 0);
        }
        due.is("findings change nothing", print(withoutFindings), print(x));
    }

    private static int argument(Random random, int wildness) {
        int sort = random.nextInt(wildness);
        if (sort == 0) {
            return WILD[random.nextInt(WILD.length)];
        }
        return random.nextInt(sort < 15 ? 7 : 60);
    }

    /** A number for all that can be asked. */
    private static long print(HourEggs x) {
        long sum = 0;
        for (int what = 0; what < 8; what++) {
            sum = sum * 31 + x.count(what);
        }
        for (int row = 0; row < 8; row++) {
            for (int what = 0; what < 6; what++) {
                sum = sum * 31 + x.of(row, what);
                sum = sum * 31 + x.henOf(row, what);
                sum = sum * 31 + x.workOf(row, what);
            }
        }
        for (int spot = 0; spot < 10; spot++) {
            sum = sum * 31 + x.as(spot, 0);
        }
        for (int s = 0; s < 4; s++) {
            sum = sum * 31 + x.judge(s);
            sum = sum * 31 + x.ages(s, 0);
            sum = sum * 31 + x.copy(s, 0, s, 0, 1);
        }
        return sum;
    }

    private static long call(HourEggs x, int[] c) {
        switch (c[0]) {
            case 0: return x.egg(c[1], c[2], c[3]);
            case 1: return x.of(c[1], c[2]);
            case 2: return x.change(c[1], c[2], c[3]);
            case 3: return x.hen(c[1], c[2], c[3]);
            case 4: return x.work(c[1], c[2], c[3]);
            case 5: return x.henOf(c[1], c[2]);
            case 6: return x.workOf(c[1], c[2]);
            case 7: return x.spend(c[1], c[2]);
            case 8: return x.broken(c[1]);
            case 9: return x.go(c[1]);
            case 10: return x.now(c[1]);
            case 11: return x.ahead(c[1]);
            case 12: return x.spoils(c[1]);
            case 13: return x.ripe(c[1]);
            case 14: return x.lasts(c[1]);
            case 15: return x.when(c[1]);
            case 16: return x.kindFor(c[1], c[2]);
            case 17: return x.everyFor(c[1], c[2]);
            case 18: return x.fewest(c[1]);
            case 19: return x.thrifty(c[1]);
            case 20: return x.best();
            case 21: return x.bestWorks();
            case 22: return x.soonest(c[1]);
            case 23: return x.nest(c[1]);
            case 24: return x.guard();
            case 25: return x.halves();
            case 26: return x.apart();
            case 27: return x.sets(c[1]);
            case 28: return x.ages(c[1], c[2]);
            case 29: return x.youngest(c[1], c[2]);
            case 30: return x.foxes(c[1]);
            case 31: return x.odds(c[1], c[2]);
            case 32: return x.feed(c[1], c[2]);
            case SEED: return x.seed(c[1]);
            case 34: return x.text();
            case 35: return x.wipe();
            case 36: return x.hold(c[1], c[2]);
            case 37: return x.as(c[1], c[2]);
            case 38: return x.sheet(c[1], 8 * (c[2] & 7), c[3]);
            case 39: return x.write(c[1], c[2], c[3]);
            case 40: return x.copy(c[1], c[2], c[3], c[4], c[5]);
            case 41: return x.load(c[1]);
            case 42: return x.judge(c[1]);
            case 43: return x.image();
            case 44: return x.undo();
            case 45: return x.tear();
            case 46: return x.sheet(c[1], c[2], c[3]);
            case COUNT: return x.count(c[1]);
            case STATUS: return x.status(c[1]);
            default: return feedText(x, TEXTS[Math.floorMod(c[1], TEXTS.length)]);
        }
    }

    private static int feedText(HourEggs x, String text) {
        x.wipe();
        Due.feed(x, text);
        return x.count(5);
    }
}
