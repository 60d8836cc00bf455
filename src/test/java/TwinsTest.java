import java.util.Random;

/** What is told of what will be, or of sets, against what comes when a twin does it. */
public final class TwinsTest {
    private static final Due due = new Due();

    public static void main(String[] args) {
        for (int seed = 0; seed < 120; seed++) {
            Random random = new Random(seed * 7919L);
            days(seed, random);
            eggs(seed, random);
            ages(seed, random);
            works(seed, random);
            shares(seed, random);
            best(seed);
        }
        due.end("TwinsTest");
    }

    /** The same house for the same seed. */
    private static HourEggs house(int seed, boolean withHens) {
        Random r = new Random(seed);
        HourEggs x = new HourEggs();
        int eggs = r.nextInt(9);
        for (int i = 0; i < eggs; i++) {
            x.egg(r.nextInt(7), 1 + r.nextInt(seed % 2 == 0 ? 99 : 20), r.nextInt(4));
            x.change(i, 2, r.nextInt(r.nextInt(3) == 0 ? 100 : 12));
        }
        int ahead = r.nextInt(8);
        if (ahead > 0) {
            x.go(ahead);
        }
        for (int h = 0; h < 4; h++) {
            int every = r.nextInt(3) == 0 ? 0 : 1 + r.nextInt(30);
            x.hen(h, 0, withHens ? every : 0);
            x.hen(h, 1, r.nextInt(7));
            x.hen(h, 2, 1 + r.nextInt(99));
        }
        for (int w = 0; w < 6; w++) {
            x.work(w, 0, r.nextInt(seed % 3 == 0 ? 300 : 90));
            x.work(w, 2, r.nextInt(4));
            x.work(w, 3, r.nextInt(60) - 20);
            if (r.nextInt(3) == 0) {
                x.work(w, 1, r.nextInt(30));
            }
        }
        return x;
    }

    private static int minutesBehind(int seed, int n) {
        HourEggs twin = house(seed, true);
        go(twin, n);
        return twin.now(2);
    }

    private static void go(HourEggs x, int n) {
        for (int left = n; left > 0; left -= 60) {
            x.go(Math.min(left, 60));
        }
    }

    private static void days(int seed, Random random) {
        HourEggs x = house(seed, true);
        int n = random.nextInt(101);
        due.is("13 ahead " + n, x.ahead(n), minutesBehind(seed, n));
        HourEggs twin = house(seed, true);
        int spoiled = twin.now(4);
        go(twin, n);
        due.is("14 spoils " + n, x.spoils(n), twin.now(4) - spoiled);
        int v = random.nextInt(400);
        long when = Due.NONE;
        for (int d = 100; d >= 0; d--) {
            when = minutesBehind(seed, d) >= v ? d : when;
        }
        due.is("17 when " + v, x.when(v), when);
        int hen = random.nextInt(4);
        int to = random.nextInt(61);
        int bestEvery = 0;
        int most = 0;
        for (int every = 1; every <= 30; every++) {
            HourEggs other = house(seed, true);
            other.hen(hen, 0, every);
            go(other, to);
            if (bestEvery == 0 || other.now(2) > most) {
                bestEvery = every;
                most = other.now(2);
            }
        }
        due.is("19 everyFor", x.everyFor(hen, to), bestEvery);
        due.is("nothing changes", x.now(2), house(seed, true).now(2));
    }

    private static void eggs(int seed, Random random) {
        HourEggs x = house(seed, false);
        int n = random.nextInt(70);
        for (int egg = 0; egg < 8; egg++) {
            if ((x.now(1) >> egg & 1) == 0) {
                continue;
            }
            HourEggs twin = house(seed, false);
            int gone = 0;
            int ripest = 0;
            int most = twin.of(egg, 4);
            while ((twin.now(1) >> egg & 1) == 1) {
                if (twin.of(egg, 4) > most) {
                    most = twin.of(egg, 4);
                    ripest = gone;
                }
                twin.go(1);
                gone++;
            }
            due.is("16 lasts", x.lasts(egg), gone);
            due.is("15 ripe", x.ripe(egg), ripest);
            int bestKind = -1;
            for (int kind = 0; kind < 7; kind++) {
                int minutes = minutesAs(seed, egg, 0, kind, n);
                if (bestKind < 0 || minutes > minutesAs(seed, egg, 0, bestKind, n)) {
                    bestKind = kind;
                }
            }
            due.is("18 kindFor", x.kindFor(egg, n), bestKind);
        }
    }

    /** MINUTES of an EGG behind n DAYS when v is told for what of it (0 its KIND, 2 its AGE). */
    private static int minutesAs(int seed, int egg, int what, int v, int n) {
        HourEggs twin = house(seed, false);
        twin.change(egg, what, v);
        go(twin, n);
        return (twin.now(1) >> egg & 1) == 1 ? twin.of(egg, 4) : 0;
    }

    private static void ages(int seed, Random random) {
        HourEggs x = house(seed, false);
        int egg = 0;
        if ((x.now(1) & 1) == 0) {
            return;
        }
        int[] told = new int[1 + random.nextInt(12)];
        int age = random.nextInt(100);
        for (int i = 0; i < told.length; i++) {
            told[i] = random.nextInt(3) == 0 ? -1 : minutesAs(seed, egg, 2, age, i);
        }
        Due.sheet(x, 2, told);
        int ages = 0;
        long youngest = Due.NONE;
        for (int a = 99; a >= 0; a--) {
            boolean fits = true;
            for (int i = 0; i < told.length && fits; i++) {
                fits = told[i] == -1 || told[i] == minutesAs(seed, egg, 2, a, i);
            }
            ages += fits ? 1 : 0;
            youngest = fits ? a : youngest;
        }
        due.is("30 ages", x.ages(2, egg), ages);
        due.is("31 youngest", x.youngest(2, egg), youngest);
    }

    private static void works(int seed, Random random) {
        HourEggs x = house(seed, false);
        int work = random.nextInt(6);
        long fewest = Due.NONE;
        long thrifty = Due.NONE;
        int least = 0;
        for (int set = 0; set < 256; set++) {
            HourEggs twin = house(seed, false);
            int minutes = 0;
            boolean can = (set & ~twin.now(1)) == 0;
            for (int egg = 0; egg < 8 && can; egg++) {
                if ((set >> egg & 1) == 1) {
                    minutes += twin.of(egg, 4);
                    can = twin.spend(egg, work) >= -9999;
                }
            }
            if (can && twin.workOf(work, 4) == 1) {
                fewest = fewest < 0 || Integer.bitCount(set) < Long.bitCount(fewest) ? set : fewest;
                if (thrifty < 0 || minutes < least) {
                    thrifty = set;
                    least = minutes;
                }
            }
        }
        due.is("20 fewest", x.fewest(work), fewest);
        due.is("21 thrifty", x.thrifty(work), thrifty);
        long soonest = Due.NONE;
        for (int n = 60; n >= 0; n--) {
            HourEggs twin = house(seed, true);
            go(twin, n);
            boolean can = twin.now(0) <= twin.workOf(work, 1);
            int there = twin.now(1);
            for (int egg = 0; egg < 8; egg++) {
                if ((there >> egg & 1) == 1) {
                    twin.spend(egg, work);
                }
            }
            soonest = can && twin.workOf(work, 4) == 1 ? n : soonest;
        }
        due.is("24 soonest", house(seed, true).soonest(work), soonest);
    }

    private static void shares(int seed, Random random) {
        HourEggs x = house(seed, false);
        int there = x.now(1);
        int all = x.now(2);
        int v = random.nextInt(80) - 20;
        int sets = 0;
        int halves = 0;
        int apart = Math.abs(all);
        for (int set = 0; set < 256; set++) {
            if ((set & ~there) != 0) {
                continue;
            }
            int sum = 0;
            for (int egg = 0; egg < 8; egg++) {
                sum += (set >> egg & 1) == 1 ? x.of(egg, 4) : 0;
            }
            sets += sum == v ? 1 : 0;
            if (Math.abs(all - 2 * sum) < apart) {
                apart = Math.abs(all - 2 * sum);
                halves = set;
            }
        }
        due.is("29 sets " + v, x.sets(v), sets);
        due.is("27 halves", x.halves(), halves);
        due.is("28 apart", x.apart(), apart);
    }

    private static void best(int seed) {
        HourEggs x = house(seed, false);
        int[] got = new int[6];
        for (int w = 0; w < 6; w++) {
            got[w] = x.workOf(w, 3);
        }
        // Only of few EGGS are all ways to spend them tried.
        int there = x.now(1);
        while (Integer.bitCount(there) > 5) {
            int egg = Integer.numberOfTrailingZeros(there);
            x.broken(egg);
            there = x.now(1);
        }
        boolean[] sets = new boolean[64];
        tryAll(x, 0, there, got, sets);
        int best = -1;
        int works = 0;
        for (int set = 0; set < 64; set++) {
            int worth = 0;
            for (int w = 0; w < 6; w++) {
                worth += (set >> w & 1) == 1 ? x.workOf(w, 2) : 0;
            }
            if (sets[set] && worth > best) {
                best = worth;
                works = set;
            }
        }
        due.is("22 best", x.best(), best);
        due.is("23 bestWorks", x.bestWorks(), works);
    }

    /** Marks all sets of WORKS that are DONE in some way. */
    private static void tryAll(HourEggs x, int egg, int there, int[] got, boolean[] sets) {
        if (egg == 8) {
            int done = 0;
            for (int w = 0; w < 6; w++) {
                done |= got[w] >= x.workOf(w, 0) ? 1 << w : 0;
            }
            for (int set = done; set > 0; set = (set - 1) & done) {
                sets[set] = true;
            }
            sets[0] = true;
            return;
        }
        tryAll(x, egg + 1, there, got, sets);
        if ((there >> egg & 1) == 0) {
            return;
        }
        int minutes = x.of(egg, 4);
        for (int w = 0; w < 6; w++) {
            if (x.now(0) <= x.workOf(w, 1)) {
                got[w] += minutes;
                tryAll(x, egg + 1, there, got, sets);
                got[w] -= minutes;
            }
        }
    }
}
