import java.util.ArrayList;
import java.util.HashMap;
import java.util.List;
import java.util.Map;
import java.util.TreeSet;
import java.util.function.IntPredicate;
import java.util.regex.Matcher;
import java.util.regex.Pattern;

/**
 * The document told once more in the slowest and plainest way, to compare with; no test of its own. What will be is
 * done on copies, sets are all tried.
 */
public final class Model {
    private static final int LOW = -1000001;
    private static final List<String> WORDS = List.of("egg", "leap", "warm", "borrowed", "rotten", "wind", "double");
    /** Of each KIND the one that it is under. */
    private static final int[] UNDER = {-1, 0, 0, 2, 3, 0, 1};

    /** A finding, by how far it lies below LOW. */
    private static final class Finding extends RuntimeException {
        final int which;

        Finding(int which) {
            this.which = which;
        }
    }

    /** A place in a text. */
    private static final class Fault extends RuntimeException {
        final int place;

        Fault(int place) {
            this.place = place;
        }
    }

    private record Egg(int kind, int size, int age, int nest) {
        Egg as(int what, int v) {
            return new Egg(what == 0 ? v : kind, what == 1 ? v : size, what == 2 ? v : age, what == 3 ? v : nest);
        }

        int minutes(int day) {
            return switch (kind) {
                case 0 -> size > age ? size - age : 0;
                case 1 -> as(0, 0).minutes(day) + (day % 4 == 0 ? 10 : 0);
                case 2 -> as(0, 0).minutes(day) + (age > 15 ? 30 : age + age);
                case 3 -> as(0, 2).minutes(day) - 15;
                case 4 -> 0 - as(0, 3).minutes(day);
                case 5 -> as(0, 0).minutes(day) / 2;
                default -> as(0, 1).minutes(day) * 2;
            };
        }

        int keeps() {
            return switch (kind) {
                case 0 -> 30;
                case 1 -> as(0, 0).keeps();
                case 2 -> 2 * as(0, 0).keeps();
                case 3 -> as(0, 2).keeps();
                case 4 -> 9;
                case 5 -> 5;
                default -> as(0, 1).keeps() - 10;
            };
        }

        boolean spoils() {
            return age > keeps();
        }
    }

    private static final class House {
        final Map<Integer, Egg> eggs = new HashMap<>();
        final int[][] hens = {{0, 0, 60, 0}, {0, 0, 60, 1}, {0, 0, 60, 2}, {0, 0, 60, 3}};
        final int[][] works = new int[6][];
        final Map<Integer, Integer> spots = new HashMap<>();
        int day = 0;
        int spoiled = 0;
        int z = 1;

        House() {
            for (int w = 0; w < 6; w++) {
                works[w] = new int[] {0, 99999, 0, 0};
            }
        }

        House copy() {
            House c = new House();
            c.eggs.putAll(eggs);
            for (int h = 0; h < 4; h++) {
                c.hens[h] = hens[h].clone();
            }
            for (int w = 0; w < 6; w++) {
                c.works[w] = works[w].clone();
            }
            c.spots.putAll(spots);
            c.day = day;
            c.spoiled = spoiled;
            c.z = z;
            return c;
        }

        House behind(int n) {
            House c = copy();
            for (int i = 0; i < n; i++) {
                c.goBy();
            }
            return c;
        }

        int lay(Egg egg) {
            for (int place = 0; place < 8; place++) {
                if (!eggs.containsKey(place)) {
                    eggs.put(place, egg);
                    return place;
                }
            }
            return -1;
        }

        /** How many spoiled. */
        int goBy() {
            eggs.replaceAll((place, egg) -> egg.as(2, egg.age + 1));
            int were = eggs.size();
            eggs.values().removeIf(Egg::spoils);
            int gone = were - eggs.size();
            spoiled = Math.min(99999, spoiled + gone);
            day = Math.min(99999, day + 1);
            for (int[] hen : hens) {
                if (hen[0] > 0 && day % hen[0] == 0) {
                    lay(new Egg(hen[1], hen[2], 0, hen[3]));
                }
            }
            return gone;
        }

        int minutes() {
            return eggs.values().stream().mapToInt(egg -> egg.minutes(day)).sum();
        }

        int minutesAt(int place) {
            return eggs.containsKey(place) ? eggs.get(place).minutes(day) : 0;
        }

        int minutesOfSet(int set) {
            int sum = 0;
            for (int place : eggs.keySet()) {
                sum += (set >> place & 1) * minutesAt(place);
            }
            return sum;
        }

        int set() {
            return eggs.keySet().stream().mapToInt(place -> 1 << place).sum();
        }

        boolean isDone(int w) {
            return works[w][3] >= works[w][0];
        }

        int done() {
            int set = 0;
            for (int w = 0; w < 6; w++) {
                set += isDone(w) ? 1 << w : 0;
            }
            return set;
        }

        void spend(int place, int w) {
            works[w][3] = Math.max(-9999, Math.min(9999, works[w][3] + minutesAt(place)));
            eggs.remove(place);
        }

        boolean isDoneBy(int w, int set) {
            if ((set & ~set()) != 0 || set != 0 && day > works[w][1]) {
                return false;
            }
            House c = copy();
            for (int place = 0; place < 8; place++) {
                if ((set >> place & 1) == 1) {
                    c.spend(place, w);
                }
            }
            return c.isDone(w);
        }

        boolean areDoneBy(int set, int places, Map<Integer, Boolean> known) {
            if (set == 0) {
                return true;
            }
            Boolean was = known.get(set * 256 + places);
            if (was != null) {
                return was;
            }
            int w = Integer.numberOfTrailingZeros(set);
            boolean can = false;
            for (int part = 0; part <= places && !can; part++) {
                can = (part & ~places) == 0 && (part == 0 || day <= works[w][1])
                    && works[w][3] + minutesOfSet(part) >= works[w][0]
                    && areDoneBy(set & set - 1, places & ~part, known);
            }
            known.put(set * 256 + places, can);
            return can;
        }
    }

    private static final class Sheet {
        int bits;
        int[] numbers;
    }

    private House house = new House();
    private House kept = null;
    private final Sheet[] sheets = new Sheet[4];
    private final StringBuilder tape = new StringBuilder();
    private final int[] findings = new int[7];

    /** The answer of a call by its name. */
    long call(String name, int... a) {
        try {
            return answer(name, a);
        } catch (Finding f) {
            findings[f.which]++;
            return LOW - f.which;
        }
    }

    private static void ask(boolean holds, int finding) {
        if (!holds) {
            throw new Finding(finding);
        }
    }

    private static void within(int v, int least, int most) {
        ask(least <= v && v <= most, 0);
    }

    private Egg eggAt(int place) {
        ask(house.eggs.containsKey(place), 0);
        return house.eggs.get(place);
    }

    private long answer(String name, int[] a) {
        switch (name) {
            case "egg": return egg(a[0], a[1], a[2]);
            case "of": return of(a[0], a[1]);
            case "change": return change(a[0], a[1], a[2]);
            case "hen": return hen(a[0], a[1], a[2]);
            case "work": return work(a[0], a[1], a[2]);
            case "henOf": within(a[0], 0, 3); within(a[1], 0, 3); return house.hens[a[0]][a[1]];
            case "workOf": return workOf(a[0], a[1]);
            case "spend": return spend(a[0], a[1]);
            case "broken": return broken(a[0]);
            case "go": return go(a[0]);
            case "now": within(a[0], 0, 4); return now()[a[0]];
            case "ahead": within(a[0], 0, 100); return house.behind(a[0]).minutes();
            case "spoils": return spoils(a[0]);
            case "ripe": return ripe(a[0]);
            case "lasts": return lasts(a[0]);
            case "when": return when(a[0]);
            case "kindFor": return kindFor(a[0], a[1]);
            case "everyFor": return everyFor(a[0], a[1]);
            case "fewest": return fewest(a[0]);
            case "thrifty": return thrifty(a[0]);
            case "best": return bestOf()[0];
            case "bestWorks": return bestOf()[1];
            case "soonest": return soonest(a[0]);
            case "nest": return nest(a[0]);
            case "guard": return guard();
            case "halves": return halves();
            case "apart": return apart(halves());
            case "sets": return sets(a[0]);
            default: return more(name, a);
        }
    }

    private long more(String name, int[] a) {
        switch (name) {
            case "ages": return fitting(a[0], a[1]).size();
            case "youngest": return youngest(a[0], a[1]);
            case "foxes": return foxes(a[0]);
            case "odds": return odds(a[0], a[1]);
            case "seed": int was = house.z; house.z = a[0]; return was;
            case "feed": return feed(a[0], a[1]);
            case "wipe": int had = tape.length(); tape.setLength(0); return had;
            case "text": return text();
            case "hold": return hold(a[0], a[1]);
            case "as": return as(a[0], a[1]);
            case "sheet": return sheet(a[0], a[1], a[2]);
            case "write": return write(a[0], a[1], a[2]);
            case "copy": return copy(a);
            case "load": return load(a[0]);
            case "judge": return judge(a[0]);
            case "image": kept = house.copy(); return 1;
            case "undo": ask(kept != null, 3); house = kept.copy(); return house.day;
            case "tear": int something = kept == null ? 0 : 1; kept = null; return something;
            case "count": within(a[0], 0, 7); return counts()[a[0]];
            case "status": within(a[0], -1, 6); return status(a[0]);
            default: throw new IllegalArgumentException(name);
        }
    }

    private int egg(int kind, int size, int nest) {
        within(kind, 0, 6);
        within(size, 1, 99);
        within(nest, 0, 3);
        int place = house.lay(new Egg(kind, size, 0, nest));
        ask(place >= 0, 1);
        return place;
    }

    private int of(int place, int what) {
        Egg e = eggAt(place);
        within(what, 0, 5);
        return new int[] {e.kind, e.size, e.age, e.nest, e.minutes(house.day), e.keeps()}[what];
    }

    private int change(int place, int what, int v) {
        int was = of(place, what);
        within(what, 0, 3);
        within(v, new int[] {0, 1, 0, 0}[what], new int[] {6, 99, 99, 3}[what]);
        house.eggs.put(place, eggAt(place).as(what, v));
        return was;
    }

    private int hen(int hen, int what, int v) {
        within(hen, 0, 3);
        within(what, 0, 3);
        within(v, new int[] {0, 0, 1, 0}[what], new int[] {30, 6, 99, 3}[what]);
        int was = house.hens[hen][what];
        house.hens[hen][what] = v;
        return was;
    }

    private int work(int work, int what, int v) {
        within(work, 0, 5);
        within(what, 0, 3);
        within(v, new int[] {0, 0, 0, -9999}[what], new int[] {999, 99999, 99, 9999}[what]);
        int was = house.works[work][what];
        house.works[work][what] = v;
        return was;
    }

    private int workOf(int work, int what) {
        within(work, 0, 5);
        within(what, 0, 4);
        return what < 4 ? house.works[work][what] : house.isDone(work) ? 1 : 0;
    }

    private int spend(int place, int work) {
        eggAt(place);
        within(work, 0, 5);
        ask(house.day <= house.works[work][1], 4);
        house.spend(place, work);
        return house.works[work][3];
    }

    private int broken(int place) {
        int minutes = eggAt(place).minutes(house.day);
        house.eggs.remove(place);
        return minutes;
    }

    private int go(int n) {
        within(n, 1, 60);
        ask(house.day + n <= 99999, 4);
        house = house.behind(n);
        return house.eggs.size();
    }

    private int[] now() {
        return new int[] {house.day, house.set(), house.minutes(), house.done(), house.spoiled};
    }

    private int[] counts() {
        return new int[] {
            house.day, house.eggs.size(), Integer.bitCount(house.done()), house.spoiled, house.minutes(), tape.length(),
            house.z, house.spots.size(),
        };
    }

    private int spoils(int n) {
        within(n, 0, 100);
        House c = house.copy();
        int gone = 0;
        for (int i = 0; i < n; i++) {
            gone += c.goBy();
        }
        return gone;
    }

    /** A house with one EGG alone. */
    private House alone(int place) {
        House c = house.copy();
        c.eggs.keySet().removeIf(p -> p != place);
        for (int[] hen : c.hens) {
            hen[0] = 0;
        }
        return c;
    }

    private int ripe(int place) {
        eggAt(place);
        int ripest = 0;
        int most = Integer.MIN_VALUE;
        House c = alone(place);
        for (int n = 0; n <= 100 && !c.eggs.isEmpty(); n++) {
            if (c.minutes() > most) {
                most = c.minutes();
                ripest = n;
            }
            c.goBy();
        }
        return ripest;
    }

    private int lasts(int place) {
        eggAt(place);
        House c = alone(place);
        for (int n = 0; ; n++) {
            if (c.eggs.isEmpty()) {
                return n;
            }
            c.goBy();
        }
    }

    private static int first(int most, IntPredicate holds) {
        for (int n = 0; n <= most; n++) {
            if (holds.test(n)) {
                return n;
            }
        }
        throw new Finding(3);
    }

    private int when(int v) {
        within(v, 0, 9999);
        return first(100, n -> house.behind(n).minutes() >= v);
    }

    private int kindFor(int place, int n) {
        eggAt(place);
        within(n, 0, 100);
        int[] minutes = new int[7];
        int most = Integer.MIN_VALUE;
        for (int kind = 0; kind < 7; kind++) {
            House c = alone(place);
            c.eggs.put(place, c.eggs.get(place).as(0, kind));
            minutes[kind] = c.behind(n).minutes();
            most = Math.max(most, minutes[kind]);
        }
        int greatest = most;
        return first(6, kind -> minutes[kind] == greatest);
    }

    private int everyFor(int hen, int n) {
        within(hen, 0, 3);
        within(n, 0, 60);
        int best = 1;
        int most = Integer.MIN_VALUE;
        for (int every = 1; every <= 30; every++) {
            House c = house.copy();
            c.hens[hen][0] = every;
            int minutes = c.behind(n).minutes();
            if (minutes > most) {
                most = minutes;
                best = every;
            }
        }
        return best;
    }

    private int fewest(int work) {
        within(work, 0, 5);
        for (int many = 0; many <= 8; many++) {
            for (int set = 0; set < 256; set++) {
                if (Integer.bitCount(set) == many && house.isDoneBy(work, set)) {
                    return set;
                }
            }
        }
        throw new Finding(3);
    }

    private int thrifty(int work) {
        within(work, 0, 5);
        int best = -1;
        for (int set = 255; set >= 0; set--) {
            if (house.isDoneBy(work, set) && (best < 0 || house.minutesOfSet(set) <= house.minutesOfSet(best))) {
                best = set;
            }
        }
        ask(best >= 0, 3);
        return best;
    }

    /** The WORTH and the set. */
    private int[] bestOf() {
        Map<Integer, Boolean> known = new HashMap<>();
        int[] best = {0, 0};
        for (int set = 0; set < 64; set++) {
            int worth = 0;
            for (int w = 0; w < 6; w++) {
                worth += (set >> w & 1) * house.works[w][2];
            }
            if (worth > best[0] && house.areDoneBy(set, house.set(), known)) {
                best = new int[] {worth, set};
            }
        }
        return best;
    }

    private int soonest(int work) {
        within(work, 0, 5);
        return first(60, n -> {
            House c = house.behind(n);
            boolean inTime = c.day <= c.works[work][1];
            for (int place : new ArrayList<>(c.eggs.keySet())) {
                c.spend(place, work);
            }
            return inTime && c.isDone(work);
        });
    }

    private int nest(int nest) {
        within(nest, 0, 3);
        return house.eggs.values().stream().filter(e -> e.nest == nest).mapToInt(e -> e.minutes(house.day)).sum();
    }

    private int guard() {
        int most = Math.max(Math.max(nest(0), nest(1)), Math.max(nest(2), nest(3)));
        return first(3, n -> nest(n) == most);
    }

    private int apart(int set) {
        int one = house.minutesOfSet(set);
        int other = house.minutesOfSet(house.set() & ~set);
        return one > other ? one - other : other - one;
    }

    private int halves() {
        int best = 0;
        for (int set = 0; set < 256; set++) {
            if ((set & ~house.set()) == 0 && apart(set) < apart(best)) {
                best = set;
            }
        }
        return best;
    }

    private int sets(int v) {
        within(v, -9999, 9999);
        int many = 0;
        for (int set = 0; set < 256; set++) {
            many += (set & ~house.set()) == 0 && house.minutesOfSet(set) == v ? 1 : 0;
        }
        return many;
    }

    private Sheet sheetAt(int s) {
        within(s, 0, 3);
        ask(sheets[s] != null, 5);
        return sheets[s];
    }

    private TreeSet<Integer> fitting(int s, int place) {
        Sheet told = sheetAt(s);
        eggAt(place);
        TreeSet<Integer> ages = new TreeSet<>();
        for (int age = 0; age < 100; age++) {
            House c = alone(place);
            c.eggs.put(place, c.eggs.get(place).as(2, age));
            boolean fits = true;
            for (int number : told.numbers) {
                fits = fits && (number == -1 || number == c.minutes());
                c.goBy();
            }
            if (fits) {
                ages.add(age);
            }
        }
        return ages;
    }

    private int youngest(int s, int place) {
        TreeSet<Integer> ages = fitting(s, place);
        ask(!ages.isEmpty(), 3);
        return ages.first();
    }

    private int foxes(int n) {
        within(n, 1, 20);
        ask(house.day + n <= 99999, 4);
        int taken = 0;
        for (int i = 0; i < n; i++) {
            house.z = (int) (house.z * 1103515245L + 12345L);
            int nest = (int) ((house.z & 0xffffffffL) / 256 % 4);
            int were = house.eggs.size();
            house.eggs.values().removeIf(e -> e.nest == nest);
            taken += were - house.eggs.size();
            house.goBy();
        }
        return taken;
    }

    private long odds(int n, int what) {
        within(n, 0, 20);
        within(what, 0, 1);
        return Math.round(Math.pow(what == 0 ? 3 : 4, n));
    }

    private int feed(int bytes, int n) {
        within(n, 1, 4);
        ask(tape.length() + n <= 120, 1);
        String all = String.format("%08x", bytes);
        for (int i = 4 - n; i < 4; i++) {
            tape.append((char) Integer.parseInt(all.substring(2 * i, 2 * i + 2), 16));
        }
        return tape.length();
    }

    private int hold(int spot, int place) {
        within(spot, 0, 9);
        within(place, -1, 7);
        if (place < 0) {
            house.spots.remove(spot);
        } else {
            house.spots.put(spot, place);
        }
        return 1;
    }

    private int as(int spot, int kind) {
        within(spot, 0, 9);
        within(kind, 0, 6);
        ask(house.spots.containsKey(spot), 5);
        int place = house.spots.get(spot);
        ask(house.eggs.containsKey(place), 5);
        int is = house.eggs.get(place).kind;
        while (is >= 0 && is != kind) {
            is = UNDER[is];
        }
        ask(is == kind, 2);
        return place;
    }

    private int sheet(int s, int bits, int n) {
        within(s, 0, 3);
        ask(List.of(0, 8, 16, 32).contains(bits), 0);
        ask(n >= 0, 6);
        ask(n <= 40, 0);
        sheets[s] = bits == 0 ? null : new Sheet();
        if (bits == 0) {
            return 0;
        }
        sheets[s].bits = bits;
        sheets[s].numbers = new int[n];
        return n;
    }

    private int write(int s, int i, int v) {
        Sheet sheet = sheetAt(s);
        within(i, 0, sheet.numbers.length - 1);
        long span = 1L << sheet.bits;
        long low = Math.floorMod((long) v, span);
        sheet.numbers[i] = (int) (low >= span / 2 ? low - span : low);
        return 1;
    }

    private int copy(int[] a) {
        within(a[0], 0, 3);
        within(a[2], 0, 3);
        Sheet from = sheetAt(a[0]);
        Sheet to = sheetAt(a[2]);
        ask(from.bits == to.bits, 2);
        ask(a[1] >= 0 && a[3] >= 0 && a[4] >= 0, 0);
        ask((long) a[1] + a[4] <= from.numbers.length && (long) a[3] + a[4] <= to.numbers.length, 0);
        int[] were = from.numbers.clone();
        for (int i = 0; i < a[4]; i++) {
            to.numbers[a[3] + i] = were[a[1] + i];
        }
        return a[4];
    }

    private int load(int s) {
        int came = 0;
        for (int number : sheetAt(s).numbers) {
            if (number < 0 || number > 999 || came == 6) {
                break;
            }
            house.works[came++][0] = number;
        }
        return came;
    }

    private int judge(int s) {
        int[] numbers = sheetAt(s).numbers;
        List<Integer> seen = new ArrayList<>();
        for (int i = 0; i < numbers.length; i++) {
            boolean isNew = house.eggs.containsKey(numbers[i]) && !seen.contains(numbers[i]);
            if (!isNew || i > 0 && house.minutesAt(numbers[i]) > house.minutesAt(numbers[i - 1])) {
                return 1 + i;
            }
            seen.add(numbers[i]);
        }
        return 0;
    }

    private int status(int which) {
        int all = 0;
        for (int many : findings) {
            all += many;
        }
        return which < 0 ? all : findings[which];
    }

    private int text() {
        String text = tape.toString();
        tape.setLength(0);
        House c = house.copy();
        try {
            int items = new Text(text, c).read();
            house = c;
            return items;
        } catch (Fault f) {
            return -1 - f.place;
        }
    }

    /** A text as a list of its TOKENS and of their places. */
    private static final class Text {
        final List<String> tokens = new ArrayList<>();
        final List<Integer> places = new ArrayList<>();
        final House house;
        int at = 0;

        Text(String text, House house) {
            this.house = house;
            Matcher m = Pattern.compile("[a-z]+|[0-9]+|[^ ]", Pattern.DOTALL).matcher(text);
            while (m.find()) {
                tokens.add(m.group());
                places.add(m.start());
            }
            tokens.add("");
            places.add(text.length());
        }

        int read() {
            int items = 0;
            do {
                item();
                items++;
            } while (takes(";"));
            stands(tokens.get(at).isEmpty());
            return items;
        }

        void stands(boolean holds) {
            if (!holds) {
                throw new Fault(places.get(at));
            }
        }

        boolean takes(String token) {
            boolean is = tokens.get(at).equals(token);
            at += is ? 1 : 0;
            return is;
        }

        int number(int least, int most) {
            stands(tokens.get(at).matches("0*[0-9]{1,5}"));
            int v = Integer.parseInt(tokens.get(at));
            stands(least <= v && v <= most);
            at++;
            return v;
        }

        void item() {
            int kind = WORDS.indexOf(tokens.get(at));
            if (kind >= 0) {
                stands(house.eggs.size() < 8);
                at++;
                int size = number(1, 99);
                int age = takes("aged") ? number(0, 99) : 0;
                int nest = takes("in") ? number(0, 3) : 0;
                house.lay(new Egg(kind, size, age, nest));
            } else if (takes("hen")) {
                int hen = number(0, 3);
                house.hens[hen][0] = number(0, 30);
            } else {
                stands(takes("work"));
                int[] work = house.works[number(0, 5)];
                work[0] = number(0, 999);
                work[1] = takes("due") ? number(0, 99999) : work[1];
                work[2] = takes("worth") ? number(0, 99) : work[2];
            }
        }
    }
}
