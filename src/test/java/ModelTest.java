import java.lang.reflect.InvocationTargetException;
import java.lang.reflect.Method;
import java.util.Arrays;
import java.util.Random;

/** Runs of calls as the words of the document allow them, each answer against that of the Model. */
public final class ModelTest {
    private static final Due due = new Due();
    private static final int RUNS = 700;
    /** How many calls are promised. */
    private static final int CALLS = 512;

    /** Each call, how often it is made, and for each argument the least and the most that is likely. */
    private static final String[] LIKELY = {
        "egg 9 0 6 1 99 0 3", "of 6 0 7 0 5", "change 9 0 7 0 3 0 7", "change 5 0 7 2 2 0 99", "change 3 0 7 1 1 1 99",
        "hen 4 0 3 0 3 0 6", "hen 4 0 3 0 0 0 30", "hen 1 0 3 2 2 1 99", "work 6 0 5 0 0 0 300", "work 3 0 5 1 1 0 40",
        "work 6 0 5 2 2 0 5", "work 4 0 5 3 3 -60 200", "work 1 0 5 3 3 9900 9999", "work 1 0 5 3 3 -9999 -9900",
        "henOf 2 0 3 0 3", "workOf 4 0 5 0 4", "spend 5 0 7 0 5", "broken 3 0 7", "go 4 1 3", "go 1 1 60", "now 5 0 4",
        "ahead 3 0 100", "spoils 3 0 100", "ripe 4 0 7", "lasts 3 0 7", "when 3 0 600", "kindFor 5 0 7 0 100",
        "kindFor 3 0 7 0 12", "everyFor 1 0 3 0 60", "fewest 5 0 5", "thrifty 5 0 5", "best 3", "bestWorks 3",
        "soonest 5 0 5", "nest 2 0 3", "guard 3", "halves 3", "apart 3", "sets 3 -60 200", "ages 6 0 3 0 7",
        "youngest 6 0 3 0 7", "foxes 2 1 3", "foxes 1 1 20", "odds 1 0 20 0 1", "seed 1 -9 9", "feed 1 32 32 1 4",
        "feed 1 -999999999 999999999 1 4", "wipe 1", "text 1", "hold 3 0 9 -1 7", "as 5 0 9 0 6", "sheet 3 0 3 8 8 0 4",
        "sheet 5 0 3 16 16 0 9", "sheet 3 0 3 32 32 0 40", "sheet 1 0 3 0 0 0 1", "write 9 0 3 0 3 -1 60",
        "write 4 0 3 0 3 -1000 1000", "write 2 0 3 0 39 -99999 99999", "copy 4 0 3 0 3 0 3 0 3 0 3", "load 2 0 3",
        "judge 3 0 3", "image 2", "undo 2", "tear 1", "count 6 0 7", "status 3 -1 6",
    };
    private static final int[] WILD = {
        Integer.MIN_VALUE, Integer.MIN_VALUE + 1, -1000001, -10000, -9999, -256, -41, -2, -1, 0, 1, 4, 6, 7, 8, 9, 10, 30,
        31, 32, 33, 40, 41, 60, 61, 99, 100, 101, 119, 120, 255, 256, 999, 1000, 9999, 10000, 65535, 65536, 99999,
        100000, Integer.MAX_VALUE - 1, Integer.MAX_VALUE,
    };
    private static final String[] PARTS = {
        "egg", "leap", "warm", "borrowed", "rotten", "wind", "double", "hen", "work", "aged", "in", "due", "worth", ";",
        ";", " ", "  ", "0", "1", "3", "4", "99", "100", "007", "x", "#", "-", "Egg", "\t", "\u00ff", "99999", "100000",
    };

    public static void main(String[] args) throws ReflectiveOperationException {
        for (int seed = 0; seed < RUNS; seed++) {
            run(seed);
        }
        due.end("ModelTest");
    }

    private static int made = 0;

    private static void run(int seed) throws ReflectiveOperationException {
        Random random = new Random(seed);
        HourEggs x = new HourEggs();
        Model model = new Model();
        int wild = seed % 3 == 0 ? 8 : 60;
        made = 0;
        while (made < CALLS) {
            if (random.nextInt(seed % 2 == 0 ? 14 : 90) == 0) {
                text(seed, x, model, random);
                continue;
            }
            String[] likely = LIKELY[random.nextInt(LIKELY.length)].split(" ");
            for (int times = random.nextInt(Integer.parseInt(likely[1]) + 1); times > 0; times--) {
                both(seed, x, model, likely[0], arguments(likely, random, wild));
            }
        }
    }

    private static int[] arguments(String[] likely, Random random, int wild) {
        int[] a = new int[(likely.length - 2) / 2];
        for (int k = 0; k < a.length; k++) {
            int least = Integer.parseInt(likely[2 + 2 * k]);
            int most = Integer.parseInt(likely[3 + 2 * k]);
            a[k] = random.nextInt(wild) == 0 ? WILD[random.nextInt(WILD.length)]
                : random.nextInt(wild) == 0 ? most + 1
                : random.nextInt(wild) == 0 ? least - 1
                : least + random.nextInt(most - least + 1);
        }
        return a;
    }

    private static void both(int seed, HourEggs x, Model model, String name, int[] a) throws ReflectiveOperationException {
        if (made++ >= CALLS) {
            return;
        }
        Class<?>[] ints = new Class<?>[a.length];
        Object[] numbers = new Object[a.length];
        for (int k = 0; k < a.length; k++) {
            ints[k] = int.class;
            numbers[k] = a[k];
        }
        Method method = HourEggs.class.getMethod(name, ints);
        long answer;
        try {
            answer = ((Number) method.invoke(x, numbers)).longValue();
        } catch (InvocationTargetException e) {
            throw new IllegalStateException(name + Arrays.toString(a), e.getCause());
        }
        due.is("run " + seed + ", " + name + Arrays.toString(a), answer, model.call(name, a));
    }

    private static void text(int seed, HourEggs x, Model model, Random random) throws ReflectiveOperationException {
        StringBuilder text = new StringBuilder();
        for (int items = 1 + random.nextInt(4); items > 0; items--) {
            text.append(item(random)).append(items > 1 ? random.nextInt(2) == 0 ? " ; " : ";" : "");
        }
        for (int faults = random.nextInt(2) * random.nextInt(4); faults > 0; faults--) {
            int at = random.nextInt(text.length() + 1);
            text.replace(at, Math.min(text.length(), at + random.nextInt(3)), PARTS[random.nextInt(PARTS.length)]);
        }
        if (random.nextInt(9) > 0) {
            both(seed, x, model, "wipe", new int[0]);
        }
        for (int at = 0; at < text.length(); ) {
            int n = Math.min(1 + random.nextInt(4), text.length() - at);
            int bytes = 0;
            for (int k = 0; k < n; k++) {
                bytes = bytes << 8 | text.charAt(at++);
            }
            both(seed, x, model, "feed", new int[] {bytes, n});
        }
        both(seed, x, model, "text", new int[0]);
        for (int what = 0; what < 5; what++) {
            both(seed, x, model, "now", new int[] {what});
        }
    }

    private static String item(Random random) {
        switch (random.nextInt(4)) {
            case 0: return "hen " + near(random, 3) + " " + near(random, 30);
            case 1: return "work " + near(random, 5) + " " + near(random, 999) + perhaps(random, "due", 99999)
                + perhaps(random, "worth", 99);
            default: return PARTS[random.nextInt(7)] + " " + (1 + near(random, 98)) + perhaps(random, "aged", 99)
                + perhaps(random, "in", 3);
        }
    }

    private static String perhaps(Random random, String word, int most) {
        return random.nextInt(2) == 0 ? "" : " " + word + " " + near(random, most);
    }

    /** Mostly from 0 to most, at times one more. */
    private static int near(Random random, int most) {
        int v = random.nextInt(Math.min(most, 60) + 1);
        return random.nextInt(25) == 0 ? most + random.nextInt(2) : v;
    }
}
