/** A henhouse that lays by the clock: each call is one promise of the document. */
public final class HourEggs {
    private static final int LOW = -1000001;

    // Findings, by how far each lies below LOW.
    private static final int BEYOND = 0;
    private static final int FULL = 1;
    private static final int KIND = 2;
    private static final int NONE = 3;
    private static final int STATE = 4;
    private static final int MISSING = 5;
    private static final int SIZE = 6;

    private static final int SHEETS = 4;
    private static final int MOST_AGE = 99;
    private static final int LOOK_AHEAD = 100;
    private static final int EVERY_AHEAD = 60;
    private static final int MOST_EVERY = 30;
    private static final int MOST_GO = 60;
    private static final int SOONEST_AHEAD = 60;
    private static final int MOST_FOXES = 20;

    private final House house;
    private final House kept;
    private final House trial;
    private final Choices choices;
    private final Sheet[] sheets;
    private final Tape tape;
    private final int[] findings;
    private boolean isKept;

    public HourEggs() {
        house = new House();
        kept = new House();
        trial = new House();
        choices = new Choices();
        sheets = new Sheet[SHEETS];
        for (int s = 0; s < SHEETS; s++) {
            sheets[s] = new Sheet();
        }
        tape = new Tape();
        findings = new int[SIZE + 1];
        isKept = false;
    }

    // ---- eggs, hens, works

    public int egg(int kind, int size, int nest) {
        Table eggs = house.eggs;
        if (!eggs.takes(House.EGG_KIND, kind) || !eggs.takes(House.EGG_SIZE, size) || !eggs.takes(House.EGG_NEST, nest)) {
            return finding(BEYOND);
        }
        int place = house.emptyPlace();
        if (place < 0) {
            return finding(FULL);
        }
        house.layAt(place, kind, size, 0, nest);
        return place;
    }

    public int of(int egg, int what) {
        if (!house.hasEgg(egg) || !within(what, 0, 5)) {
            return finding(BEYOND);
        }
        if (what == 4) {
            return house.minutesOf(egg);
        }
        if (what == 5) {
            return Kinds.keeps(house.eggs.at(egg, House.EGG_KIND));
        }
        return house.eggs.at(egg, what);
    }

    public int change(int egg, int what, int v) {
        return house.hasEgg(egg) ? replace(house.eggs, egg, what, v) : finding(BEYOND);
    }

    public int hen(int hen, int what, int v) {
        return replace(house.hens, hen, what, v);
    }

    public int work(int work, int what, int v) {
        return replace(house.works, work, what, v);
    }

    public int henOf(int hen, int what) {
        if (!house.hens.hasRow(hen) || !house.hens.hasColumn(what)) {
            return finding(BEYOND);
        }
        return house.hens.at(hen, what);
    }

    public int workOf(int work, int what) {
        if (!house.works.hasRow(work) || !within(what, 0, 4)) {
            return finding(BEYOND);
        }
        if (what == 4) {
            return house.isDone(work) ? 1 : 0;
        }
        return house.works.at(work, what);
    }

    public int spend(int egg, int work) {
        if (!house.hasEgg(egg) || !house.works.hasRow(work)) {
            return finding(BEYOND);
        }
        if (!house.isInTime(work)) {
            return finding(STATE);
        }
        return house.spendOn(egg, work);
    }

    public int broken(int egg) {
        if (!house.hasEgg(egg)) {
            return finding(BEYOND);
        }
        int minutes = house.minutesOf(egg);
        house.empty(egg);
        return minutes;
    }

    // ---- days

    public int go(int n) {
        if (!within(n, 1, MOST_GO)) {
            return finding(BEYOND);
        }
        if (house.day + n > House.MOST_DAY) {
            return finding(STATE);
        }
        house.daysGoBy(n);
        return Integer.bitCount(house.places());
    }

    public int now(int what) {
        switch (what) {
            case 0: return house.day;
            case 1: return house.places();
            case 2: return house.allMinutes();
            case 3: return house.doneWorks();
            case 4: return house.spoiled;
            default: return finding(BEYOND);
        }
    }

    // ---- what will be (nothing changes): all of it is tried on another house

    public int ahead(int n) {
        if (!within(n, 0, LOOK_AHEAD)) {
            return finding(BEYOND);
        }
        trial.become(house);
        trial.daysGoBy(n);
        return trial.allMinutes();
    }

    public int spoils(int n) {
        if (!within(n, 0, LOOK_AHEAD)) {
            return finding(BEYOND);
        }
        trial.become(house);
        return trial.daysGoBy(n);
    }

    public int ripe(int egg) {
        if (!house.hasEgg(egg)) {
            return finding(BEYOND);
        }
        int kind = house.eggs.at(egg, House.EGG_KIND);
        int age = house.eggs.at(egg, House.EGG_AGE);
        int ripest = 0;
        int most = house.minutesOf(egg);
        for (int n = 1; n <= LOOK_AHEAD && Kinds.stays(kind, age, n); n++) {
            int minutes = house.minutesBehind(egg, kind, age, n);
            if (minutes > most) {
                most = minutes;
                ripest = n;
            }
        }
        return ripest;
    }

    public int lasts(int egg) {
        if (!house.hasEgg(egg)) {
            return finding(BEYOND);
        }
        int kind = house.eggs.at(egg, House.EGG_KIND);
        int age = house.eggs.at(egg, House.EGG_AGE);
        int n = 0;
        while (n < LOOK_AHEAD && Kinds.stays(kind, age, n)) {
            n++;
        }
        return n;
    }

    public int when(int v) {
        if (!within(v, 0, 9999)) {
            return finding(BEYOND);
        }
        trial.become(house);
        for (int n = 0; n <= LOOK_AHEAD; n++) {
            if (trial.allMinutes() >= v) {
                return n;
            }
            trial.daysGoBy(1);
        }
        return finding(NONE);
    }

    public int kindFor(int egg, int n) {
        if (!house.hasEgg(egg) || !within(n, 0, LOOK_AHEAD)) {
            return finding(BEYOND);
        }
        int age = house.eggs.at(egg, House.EGG_AGE);
        int bestKind = 0;
        int most = house.minutesBehind(egg, 0, age, n);
        for (int kind = 1; kind < Kinds.MANY; kind++) {
            int minutes = house.minutesBehind(egg, kind, age, n);
            if (minutes > most) {
                most = minutes;
                bestKind = kind;
            }
        }
        return bestKind;
    }

    public int everyFor(int hen, int n) {
        if (!house.hens.hasRow(hen) || !within(n, 0, EVERY_AHEAD)) {
            return finding(BEYOND);
        }
        int bestEvery = 1;
        int most = minutesWithEvery(hen, 1, n);
        for (int every = 2; every <= MOST_EVERY; every++) {
            int minutes = minutesWithEvery(hen, every, n);
            if (minutes > most) {
                most = minutes;
                bestEvery = every;
            }
        }
        return bestEvery;
    }

    private int minutesWithEvery(int hen, int every, int n) {
        trial.become(house);
        trial.hens.put(hen, House.HEN_EVERY, every);
        trial.daysGoBy(n);
        return trial.allMinutes();
    }

    // ---- works

    public int fewest(int work) {
        if (!house.works.hasRow(work)) {
            return finding(BEYOND);
        }
        choices.lookAt(house);
        int set = choices.fewestFor(house, work);
        return set < 0 ? finding(NONE) : set;
    }

    public int thrifty(int work) {
        if (!house.works.hasRow(work)) {
            return finding(BEYOND);
        }
        choices.lookAt(house);
        int set = choices.leastFor(house, work);
        return set < 0 ? finding(NONE) : set;
    }

    public int best() {
        choices.lookAt(house);
        return Choices.worthOf(choices.bestMark(house));
    }

    public int bestWorks() {
        choices.lookAt(house);
        return Choices.worksOf(choices.bestMark(house));
    }

    public int soonest(int work) {
        if (!house.works.hasRow(work)) {
            return finding(BEYOND);
        }
        trial.become(house);
        for (int n = 0; n <= SOONEST_AHEAD && trial.isInTime(work); n++) {
            if (trial.lacks(work) <= trial.allMinutes()) {
                return n;
            }
            trial.daysGoBy(1);
        }
        return finding(NONE);
    }

    // ---- nests, two who share

    public int nest(int nest) {
        return within(nest, 0, House.NESTS - 1) ? house.minutesIn(nest) : finding(BEYOND);
    }

    public int guard() {
        int guarded = 0;
        for (int n = 1; n < House.NESTS; n++) {
            if (house.minutesIn(n) > house.minutesIn(guarded)) {
                guarded = n;
            }
        }
        return guarded;
    }

    public int halves() {
        choices.lookAt(house);
        return choices.nearestHalf();
    }

    public int apart() {
        choices.lookAt(house);
        return choices.apartWith(choices.nearestHalf());
    }

    public int sets(int v) {
        if (!within(v, -9999, 9999)) {
            return finding(BEYOND);
        }
        choices.lookAt(house);
        return choices.setsOf(v);
    }

    // ---- what was told

    public int ages(int s, int egg) {
        int wrong = wrongTold(s, egg);
        if (wrong >= 0) {
            return finding(wrong);
        }
        int fitting = 0;
        for (int age = 0; age <= MOST_AGE; age++) {
            if (fits(sheetAt(s), egg, age)) {
                fitting++;
            }
        }
        return fitting;
    }

    public int youngest(int s, int egg) {
        int wrong = wrongTold(s, egg);
        if (wrong >= 0) {
            return finding(wrong);
        }
        for (int age = 0; age <= MOST_AGE; age++) {
            if (fits(sheetAt(s), egg, age)) {
                return age;
            }
        }
        return finding(NONE);
    }

    /** The finding that ages() and youngest() meet first, or -1. */
    private int wrongTold(int s, int egg) {
        int wrong = wrongSheet(s);
        if (wrong >= 0) {
            return wrong;
        }
        return house.hasEgg(egg) ? -1 : BEYOND;
    }

    private boolean fits(Sheet told, int egg, int age) {
        if (told == null) {
            return false;
        }
        int kind = house.eggs.at(egg, House.EGG_KIND);
        for (int n = 0; n < told.length; n++) {
            int minutes = told.at(n);
            if (minutes != -1 && minutes != house.minutesBehind(egg, kind, age, n)) {
                return false;
            }
        }
        return true;
    }

    // ---- foxes

    public int foxes(int n) {
        if (!within(n, 1, MOST_FOXES)) {
            return finding(BEYOND);
        }
        if (house.day + n > House.MOST_DAY) {
            return finding(STATE);
        }
        int taken = 0;
        for (int i = 0; i < n; i++) {
            taken += house.foxComes();
            house.daysGoBy(1);
        }
        return taken;
    }

    public long odds(int n, int what) {
        if (!within(n, 0, MOST_FOXES) || !within(what, 0, 1)) {
            return finding(BEYOND);
        }
        long line = 1;
        // Three of four NESTS are spared; powers of 3 and of 4 have no common divisor.
        for (int i = 0; i < n; i++) {
            line *= what == 0 ? House.NESTS - 1 : House.NESTS;
        }
        return line;
    }

    public int seed(int v) {
        int was = house.z;
        house.z = v;
        return was;
    }

    // ---- texts

    public int feed(int bytes, int n) {
        if (!within(n, 1, 4)) {
            return finding(BEYOND);
        }
        if (tape.length + n > Tape.MOST) {
            return finding(FULL);
        }
        for (int i = n - 1; i >= 0; i--) {
            tape.append(bytes >>> (8 * i));
        }
        return tape.length;
    }

    public int wipe() {
        int had = tape.length;
        tape.length = 0;
        return had;
    }

    public int text() {
        // The reader works on the trial house, so that a FAULT leaves this one as it is.
        trial.become(house);
        int items = new Reader(tape, trial).readText();
        if (items >= 0) {
            house.become(trial);
        }
        tape.length = 0;
        return items;
    }

    // ---- spots, sheets

    public int hold(int spot, int egg) {
        if (!within(spot, 0, House.SPOTS - 1) || !within(egg, -1, House.PLACES - 1)) {
            return finding(BEYOND);
        }
        house.setSpot(spot, egg);
        return 1;
    }

    public int as(int spot, int kind) {
        if (!within(spot, 0, House.SPOTS - 1) || !within(kind, 0, Kinds.MANY - 1)) {
            return finding(BEYOND);
        }
        int place = house.spotAt(spot);
        if (!house.hasEgg(place)) {
            return finding(MISSING);
        }
        return Kinds.isUnder(house.eggs.at(place, House.EGG_KIND), kind) ? place : finding(KIND);
    }

    public int sheet(int s, int bits, int n) {
        Sheet sheet = sheetAt(s);
        if (sheet == null || bits != 0 && !Sheet.hasWidth(bits)) {
            return finding(BEYOND);
        }
        if (n < 0) {
            return finding(SIZE);
        }
        if (n > Sheet.MOST) {
            return finding(BEYOND);
        }
        sheet.makeNew(bits, n);
        return sheet.length;
    }

    public int write(int s, int i, int v) {
        int wrong = wrongSheet(s);
        if (wrong >= 0) {
            return finding(wrong);
        }
        Sheet sheet = sheetAt(s);
        if (sheet == null || !within(i, 0, sheet.length - 1)) {
            return finding(BEYOND);
        }
        sheet.put(i, v);
        return 1;
    }

    public int copy(int s, int from, int t, int to, int n) {
        Sheet source = sheetAt(s);
        Sheet target = sheetAt(t);
        if (source == null || target == null) {
            return finding(BEYOND);
        }
        if (source.isMissing() || target.isMissing()) {
            return finding(MISSING);
        }
        if (source.bits != target.bits) {
            return finding(KIND);
        }
        if (!source.hasNumbers(from, n) || !target.hasNumbers(to, n)) {
            return finding(BEYOND);
        }
        copyNumbers(source, from, target, to, n);
        return n;
    }

    private static void copyNumbers(Sheet source, int from, Sheet target, int to, int n) {
        if (source == null || target == null) {
            return;
        }
        // Both may be one sheet: none may be overwritten before it was copied.
        boolean lastFirst = to > from;
        for (int k = 0; k < n; k++) {
            int i = lastFirst ? n - 1 - k : k;
            target.put(to + i, source.at(from + i));
        }
    }

    public int load(int s) {
        int wrong = wrongSheet(s);
        if (wrong >= 0) {
            return finding(wrong);
        }
        Sheet sheet = sheetAt(s);
        int came = 0;
        while (sheet != null && came < sheet.length && came < House.WORKS
                && house.works.takes(House.WORK_NEED, sheet.at(came))) {
            house.works.put(came, House.WORK_NEED, sheet.at(came));
            came++;
        }
        return came;
    }

    public int judge(int s) {
        int wrong = wrongSheet(s);
        if (wrong >= 0) {
            return finding(wrong);
        }
        Sheet sheet = sheetAt(s);
        int seen = 0;
        for (int i = 0; sheet != null && i < sheet.length; i++) {
            int place = sheet.at(i);
            if (!house.hasEgg(place) || (seen & (1 << place)) != 0) {
                return 1 + i;
            }
            if (i > 0 && house.minutesOf(place) > house.minutesOf(sheet.at(i - 1))) {
                return 1 + i;
            }
            seen |= 1 << place;
        }
        return 0;
    }

    // ---- images

    public int image() {
        kept.become(house);
        isKept = true;
        return 1;
    }

    public int undo() {
        if (!isKept) {
            return finding(NONE);
        }
        house.become(kept);
        return house.day;
    }

    public int tear() {
        int was = isKept ? 1 : 0;
        isKept = false;
        return was;
    }

    public int count(int what) {
        switch (what) {
            case 0: return house.day;
            case 1: return Integer.bitCount(house.places());
            case 2: return Integer.bitCount(house.doneWorks());
            case 3: return house.spoiled;
            case 4: return house.allMinutes();
            case 5: return tape.length;
            case 6: return house.z;
            case 7: return house.heldSpots();
            default: return finding(BEYOND);
        }
    }

    public int status(int which) {
        if (which == -1) {
            int all = 0;
            for (int i = 0; i < findings.length; i++) {
                all += findings[i];
            }
            return all;
        }
        if (which < 0 || which >= findings.length) {
            return finding(BEYOND);
        }
        return findings[which];
    }

    // ---- what the calls have in common

    private int finding(int which) {
        if (which >= 0 && which < findings.length) {
            findings[which]++;
        }
        return LOW - which;
    }

    private int replace(Table table, int row, int column, int v) {
        if (table == null || !table.hasRow(row) || !table.takes(column, v)) {
            return finding(BEYOND);
        }
        int was = table.at(row, column);
        table.put(row, column, v);
        return was;
    }

    private Sheet sheetAt(int s) {
        return s >= 0 && s < sheets.length ? sheets[s] : null;
    }

    /** BEYOND or MISSING of a sheet that is to be read, or -1. */
    private int wrongSheet(int s) {
        Sheet sheet = sheetAt(s);
        if (sheet == null) {
            return BEYOND;
        }
        return sheet.isMissing() ? MISSING : -1;
    }

    private static boolean within(int v, int least, int most) {
        return v >= least && v <= most;
    }

    private static void copyRow(int[] from, int[] to) {
        if (from == null || to == null) {
            return;
        }
        for (int i = 0; i < from.length && i < to.length; i++) {
            to[i] = from[i];
        }
    }

    /** What follows from the KIND of an EGG. */
    private static final class Kinds {
        static final int MANY = 7;
        static final int LEAP = 1;
        static final int WARM = 2;
        static final int BORROWED = 3;
        static final int ROTTEN = 4;
        static final int WIND = 5;
        static final int DOUBLE = 6;

        private static final int[] UPPER = {-1, 0, 0, 2, 3, 0, 1};
        private static final int[] KEEPS = {30, 30, 60, 60, 9, 5, 20};

        static int minutes(int kind, int size, int age, int day) {
            int plain = Math.max(0, size - age);
            int leap = day % 4 == 0 ? plain + 10 : plain;
            int borrowed = plain + Math.min(2 * age, 30) - 15;
            switch (kind) {
                case LEAP: return leap;
                case WARM: return borrowed + 15;
                case BORROWED: return borrowed;
                case ROTTEN: return -borrowed;
                case WIND: return plain / 2;
                case DOUBLE: return 2 * leap;
                default: return plain;
            }
        }

        static int keeps(int kind) {
            return kind >= 0 && kind < KEEPS.length ? KEEPS[kind] : 0;
        }

        /** Whether an EGG that is there now is there behind n DAYS: nothing spoils before a DAY goes by. */
        static boolean stays(int kind, int age, int n) {
            return n <= 0 || age + n <= keeps(kind);
        }

        static boolean isUnder(int kind, int upper) {
            int k = kind;
            for (int level = 0; level < MANY && k >= 0 && k < UPPER.length; level++) {
                if (k == upper) {
                    return true;
                }
                k = UPPER[k];
            }
            return false;
        }
    }

    /** Rows of four numbers, each column between its bounds. */
    private static final class Table {
        private static final int MOST_ROWS = 8;
        private static final int COLUMNS = 4;

        private final int rows;
        private final int[] least;
        private final int[] most;
        private final int[] cells;

        Table(int rows, int[] least, int[] most) {
            this.rows = Math.min(rows, MOST_ROWS);
            this.least = least;
            this.most = most;
            cells = new int[MOST_ROWS * COLUMNS];
        }

        boolean hasRow(int row) {
            return row >= 0 && row < rows;
        }

        boolean hasColumn(int column) {
            return column >= 0 && column < COLUMNS;
        }

        boolean takes(int column, int v) {
            return column >= 0 && column < least.length && column < most.length
                    && v >= least[column] && v <= most[column];
        }

        int at(int row, int column) {
            if (row < 0 || row >= rows || column < 0 || column >= COLUMNS) {
                return 0;
            }
            return cells[row * COLUMNS + column];
        }

        void put(int row, int column, int v) {
            if (row >= 0 && row < rows && column >= 0 && column < COLUMNS) {
                cells[row * COLUMNS + column] = v;
            }
        }

        void become(Table other) {
            if (other != null) {
                copyRow(other.cells, cells);
            }
        }
    }

    /** All that an image keeps. */
    private static final class House {
        static final int PLACES = 8;
        static final int NESTS = 4;
        static final int HENS = 4;
        static final int WORKS = 6;
        static final int SPOTS = 10;
        static final int MOST_DAY = 99999;

        static final int EGG_KIND = 0;
        static final int EGG_SIZE = 1;
        static final int EGG_AGE = 2;
        static final int EGG_NEST = 3;

        static final int HEN_EVERY = 0;
        static final int HEN_KIND = 1;
        static final int HEN_SIZE = 2;
        static final int HEN_NEST = 3;

        static final int WORK_NEED = 0;
        static final int WORK_DUE = 1;
        static final int WORK_WORTH = 2;
        static final int WORK_GOT = 3;

        private static final int NO_EGG = -1;
        private static final int FIRST_SIZE = 60;
        private static final int MOST_GOT = 9999;
        private static final int MOST_SPOILED = 99999;

        private static final int[] EGG_LEAST = {0, 1, 0, 0};
        private static final int[] EGG_MOST = {6, 99, 99, 3};
        private static final int[] HEN_LEAST = {0, 0, 1, 0};
        private static final int[] HEN_MOST = {30, 6, 99, 3};
        private static final int[] WORK_LEAST = {0, 0, 0, -9999};
        private static final int[] WORK_MOST = {999, 99999, 99, 9999};

        final Table eggs;
        final Table hens;
        final Table works;
        final int[] spots;
        int day;
        int spoiled;
        int z;

        House() {
            eggs = new Table(PLACES, EGG_LEAST, EGG_MOST);
            for (int place = 0; place < PLACES; place++) {
                eggs.put(place, EGG_KIND, NO_EGG);
            }
            hens = new Table(HENS, HEN_LEAST, HEN_MOST);
            for (int h = 0; h < HENS; h++) {
                hens.put(h, HEN_SIZE, FIRST_SIZE);
                hens.put(h, HEN_NEST, h);
            }
            works = new Table(WORKS, WORK_LEAST, WORK_MOST);
            for (int w = 0; w < WORKS; w++) {
                works.put(w, WORK_DUE, MOST_DAY);
            }
            spots = new int[SPOTS];
            for (int spot = 0; spot < SPOTS; spot++) {
                spots[spot] = -1;
            }
            day = 0;
            spoiled = 0;
            z = 1;
        }

        void become(House other) {
            if (other == null) {
                return;
            }
            eggs.become(other.eggs);
            hens.become(other.hens);
            works.become(other.works);
            copyRow(other.spots, spots);
            day = other.day;
            spoiled = other.spoiled;
            z = other.z;
        }

        boolean hasEgg(int place) {
            return eggs.hasRow(place) && eggs.at(place, EGG_KIND) != NO_EGG;
        }

        int emptyPlace() {
            for (int place = 0; place < PLACES; place++) {
                if (!hasEgg(place)) {
                    return place;
                }
            }
            return -1;
        }

        int places() {
            int set = 0;
            for (int place = 0; place < PLACES; place++) {
                if (hasEgg(place)) {
                    set |= 1 << place;
                }
            }
            return set;
        }

        void layAt(int place, int kind, int size, int age, int nest) {
            eggs.put(place, EGG_KIND, kind);
            eggs.put(place, EGG_SIZE, size);
            eggs.put(place, EGG_AGE, age);
            eggs.put(place, EGG_NEST, nest);
        }

        void empty(int place) {
            eggs.put(place, EGG_KIND, NO_EGG);
        }

        int minutesOf(int place) {
            if (!hasEgg(place)) {
                return 0;
            }
            return minutesBehind(place, eggs.at(place, EGG_KIND), eggs.at(place, EGG_AGE), 0);
        }

        /** MINUTES of an EGG behind n DAYS, were it now of that KIND and AGE; 0, if it is gone then. */
        int minutesBehind(int place, int kind, int age, int n) {
            if (!Kinds.stays(kind, age, n)) {
                return 0;
            }
            return Kinds.minutes(kind, eggs.at(place, EGG_SIZE), age + n, Math.min(day + n, MOST_DAY));
        }

        int allMinutes() {
            int sum = 0;
            for (int place = 0; place < PLACES; place++) {
                sum += minutesOf(place);
            }
            return sum;
        }

        int minutesIn(int nest) {
            int sum = 0;
            for (int place = 0; place < PLACES; place++) {
                if (eggs.at(place, EGG_NEST) == nest) {
                    sum += minutesOf(place);
                }
            }
            return sum;
        }

        int lacks(int work) {
            return works.at(work, WORK_NEED) - works.at(work, WORK_GOT);
        }

        boolean isDone(int work) {
            return lacks(work) <= 0;
        }

        boolean isInTime(int work) {
            return day <= works.at(work, WORK_DUE);
        }

        int doneWorks() {
            int set = 0;
            for (int w = 0; w < WORKS; w++) {
                if (isDone(w)) {
                    set |= 1 << w;
                }
            }
            return set;
        }

        int spendOn(int place, int work) {
            int got = works.at(work, WORK_GOT) + minutesOf(place);
            int held = Math.max(-MOST_GOT, Math.min(MOST_GOT, got));
            works.put(work, WORK_GOT, held);
            empty(place);
            return held;
        }

        /** How many EGGS spoiled. */
        int daysGoBy(int n) {
            int gone = 0;
            for (int i = 0; i < n; i++) {
                int today = eggsAge();
                spoiled = Math.min(spoiled + today, MOST_SPOILED);
                gone += today;
                day = Math.min(day + 1, MOST_DAY);
                hensLay();
            }
            return gone;
        }

        private int eggsAge() {
            int gone = 0;
            for (int place = 0; place < PLACES; place++) {
                if (!hasEgg(place)) {
                    continue;
                }
                int age = eggs.at(place, EGG_AGE) + 1;
                eggs.put(place, EGG_AGE, age);
                if (age > Kinds.keeps(eggs.at(place, EGG_KIND))) {
                    empty(place);
                    gone++;
                }
            }
            return gone;
        }

        private void hensLay() {
            for (int h = 0; h < HENS; h++) {
                int every = hens.at(h, HEN_EVERY);
                if (every <= 0 || day % every != 0) {
                    continue;
                }
                int place = emptyPlace();
                if (place >= 0) {
                    layAt(place, hens.at(h, HEN_KIND), hens.at(h, HEN_SIZE), 0, hens.at(h, HEN_NEST));
                }
            }
        }

        /** How many EGGS the fox took. */
        int foxComes() {
            z = z * 1103515245 + 12345;
            int nest = (z >>> 8) % NESTS;
            int taken = 0;
            for (int place = 0; place < PLACES; place++) {
                if (hasEgg(place) && eggs.at(place, EGG_NEST) == nest) {
                    empty(place);
                    taken++;
                }
            }
            return taken;
        }

        int spotAt(int spot) {
            return spot >= 0 && spot < spots.length ? spots[spot] : -1;
        }

        void setSpot(int spot, int place) {
            if (spot >= 0 && spot < spots.length) {
                spots[spot] = place;
            }
        }

        int heldSpots() {
            int held = 0;
            for (int spot = 0; spot < SPOTS; spot++) {
                if (spotAt(spot) >= 0) {
                    held++;
                }
            }
            return held;
        }
    }

    /** All sets of PLACES, with the MINUTES of each; lookAt() comes first. */
    private static final class Choices {
        private static final int SETS = 1 << House.PLACES;
        // Above every set of WORKS, so that in worth * MARK - works the worth decides first.
        private static final int MARK = 1 << House.WORKS;

        private final int[] sums = new int[SETS];
        private final int[] marks = new int[SETS];
        private int places;

        void lookAt(House house) {
            places = house == null ? 0 : house.places();
            sums[0] = 0;
            for (int place = 0; place < House.PLACES; place++) {
                int minutes = house == null ? 0 : house.minutesOf(place);
                int bit = 1 << place;
                for (int set = 0; set < bit && bit + set < SETS; set++) {
                    sums[bit + set] = sums[set] + minutes;
                }
            }
        }

        private boolean isOfEggs(int set) {
            return (set & ~places) == 0;
        }

        private int sumOf(int set) {
            return set >= 0 && set < SETS ? sums[set] : 0;
        }

        private boolean does(House house, int work, int set) {
            return house != null && isOfEggs(set) && (set == 0 || house.isInTime(work))
                    && sumOf(set) >= house.lacks(work);
        }

        /** The set of fewest EGGS with which a WORK is DONE, or -1. */
        int fewestFor(House house, int work) {
            int fewest = -1;
            for (int set = 0; set < SETS; set++) {
                if (does(house, work, set)
                        && (fewest < 0 || Integer.bitCount(set) < Integer.bitCount(fewest))) {
                    fewest = set;
                }
            }
            return fewest;
        }

        /** The set of least MINUTES with which a WORK is DONE, or -1. */
        int leastFor(House house, int work) {
            int least = -1;
            for (int set = 0; set < SETS; set++) {
                if (does(house, work, set) && (least < 0 || sumOf(set) < sumOf(least))) {
                    least = set;
                }
            }
            return least;
        }

        /** worth * MARK - works of the WORKS that are best done. */
        int bestMark(House house) {
            for (int set = 0; set < SETS; set++) {
                marks[set] = 0;
            }
            int free = 0;
            for (int w = 0; house != null && w < House.WORKS; w++) {
                int worth = house.works.at(w, House.WORK_WORTH);
                // A WORK of no WORTH only makes the set greater.
                if (worth <= 0) {
                    continue;
                }
                int mark = worth * MARK - (1 << w);
                if (house.isDone(w)) {
                    free += mark;
                } else if (house.isInTime(w)) {
                    offer(house.lacks(w), mark);
                }
            }
            return free + markOf(places);
        }

        /** Lets each set of PLACES do one WORK more. Greater sets go first: the rest of each then still lacks it. */
        private void offer(int lacks, int mark) {
            for (int set = SETS - 1; set > 0; set--) {
                if (isOfEggs(set)) {
                    marks[set] = bestWithOneMore(set, lacks, mark);
                }
            }
        }

        private int bestWithOneMore(int set, int lacks, int mark) {
            int best = markOf(set);
            for (int part = set; part > 0; part = (part - 1) & set) {
                if (sumOf(part) >= lacks) {
                    best = Math.max(best, markOf(set ^ part) + mark);
                }
            }
            return best;
        }

        private int markOf(int set) {
            return set >= 0 && set < SETS ? marks[set] : 0;
        }

        static int worthOf(int mark) {
            return (mark + MARK - 1) / MARK;
        }

        static int worksOf(int mark) {
            return worthOf(mark) * MARK - mark;
        }

        int nearestHalf() {
            int nearest = 0;
            for (int set = 1; set < SETS; set++) {
                if (isOfEggs(set) && apartWith(set) < apartWith(nearest)) {
                    nearest = set;
                }
            }
            return nearest;
        }

        int apartWith(int set) {
            return Math.abs(2 * sumOf(set) - sumOf(places));
        }

        int setsOf(int v) {
            int found = 0;
            for (int set = 0; set < SETS; set++) {
                if (isOfEggs(set) && sumOf(set) == v) {
                    found++;
                }
            }
            return found;
        }
    }

    /** A row of numbers of 8, 16 or 32 bits; of 0 bits it is MISSING. */
    private static final class Sheet {
        static final int MOST = 40;

        private final int[] numbers = new int[MOST];
        int bits;
        int length;

        static boolean hasWidth(int bits) {
            return bits == 8 || bits == 16 || bits == 32;
        }

        boolean isMissing() {
            return bits == 0;
        }

        void makeNew(int newBits, int n) {
            bits = newBits;
            length = newBits == 0 ? 0 : Math.max(0, Math.min(n, MOST));
            for (int i = 0; i < MOST; i++) {
                numbers[i] = 0;
            }
        }

        boolean hasNumbers(int from, int n) {
            return from >= 0 && n >= 0 && from <= length && n <= length - from;
        }

        int at(int i) {
            return i >= 0 && i < numbers.length ? numbers[i] : 0;
        }

        void put(int i, int v) {
            if (i < 0 || i >= numbers.length) {
                return;
            }
            if (bits == 8) {
                numbers[i] = (byte) v;
            } else if (bits == 16) {
                numbers[i] = (short) v;
            } else {
                numbers[i] = v;
            }
        }
    }

    /** Bytes from 0 to 255. */
    private static final class Tape {
        static final int MOST = 120;

        private final int[] bytes = new int[MOST];
        int length;

        void append(int b) {
            if (length >= 0 && length < MOST) {
                bytes[length] = b & 255;
                length++;
            }
        }

        /** -1 behind the end. */
        int at(int i) {
            return i >= 0 && i < length && i < MOST ? bytes[i] : -1;
        }
    }

    /** Reads a TEXT item by item; of the token that it has ahead, start is always the place of a FAULT. */
    private static final class Reader {
        private static final int END = 0;
        private static final int WORD = 1;
        private static final int NUMBER = 2;
        private static final int SIGN = 3;
        private static final int OTHER = 4;
        private static final int TOO_GREAT = 100000;

        private final Tape tape;
        private final House house;
        private int token;
        private int start;
        private int end;
        private int value;

        Reader(Tape tape, House house) {
            this.tape = tape;
            this.house = house;
        }

        /** How many ITEMS, or -1 less the FAULT. */
        int readText() {
            if (tape == null || house == null) {
                return -1;
            }
            advance();
            for (int items = 1; items <= Tape.MOST; items++) {
                int kind = kindAhead();
                boolean isRead = kind >= 0 ? readEgg(kind) : isAhead("hen") ? readHen() : readWork();
                if (!isRead || token != END && token != SIGN) {
                    break;
                }
                if (token == END) {
                    return items;
                }
                advance();
            }
            return -1 - start;
        }

        private boolean readEgg(int kind) {
            int place = house.emptyPlace();
            if (place < 0) {
                return false;
            }
            advance();
            int size = readNumber(1, 99);
            int age = size < 0 ? -1 : readPerhaps("aged", 99, 0);
            int nest = age < 0 ? -1 : readPerhaps("in", House.NESTS - 1, 0);
            if (nest < 0) {
                return false;
            }
            house.layAt(place, kind, size, age, nest);
            return true;
        }

        private boolean readHen() {
            advance();
            int hen = readNumber(0, House.HENS - 1);
            int every = hen < 0 ? -1 : readNumber(0, MOST_EVERY);
            if (every < 0) {
                return false;
            }
            house.hens.put(hen, House.HEN_EVERY, every);
            return true;
        }

        private boolean readWork() {
            if (!isAhead("work")) {
                return false;
            }
            advance();
            int work = readNumber(0, House.WORKS - 1);
            int need = work < 0 ? -1 : readNumber(0, 999);
            int due = need < 0 ? -1 : readPerhaps("due", House.MOST_DAY, house.works.at(work, House.WORK_DUE));
            int worth = due < 0 ? -1 : readPerhaps("worth", 99, house.works.at(work, House.WORK_WORTH));
            if (worth < 0) {
                return false;
            }
            house.works.put(work, House.WORK_NEED, need);
            house.works.put(work, House.WORK_DUE, due);
            house.works.put(work, House.WORK_WORTH, worth);
            return true;
        }

        /** The NUMBER behind a word, without the word what is told instead; -1 is a FAULT. */
        private int readPerhaps(String word, int most, int without) {
            if (!isAhead(word)) {
                return without;
            }
            advance();
            return readNumber(0, most);
        }

        /** -1 is a FAULT. */
        private int readNumber(int least, int most) {
            if (token != NUMBER || value < least || value > most) {
                return -1;
            }
            int number = value;
            advance();
            return number;
        }

        private int kindAhead() {
            for (int kind = 0; kind < Kinds.MANY; kind++) {
                if (isAhead(wordOf(kind))) {
                    return kind;
                }
            }
            return -1;
        }

        private static String wordOf(int kind) {
            switch (kind) {
                case Kinds.LEAP: return "leap";
                case Kinds.WARM: return "warm";
                case Kinds.BORROWED: return "borrowed";
                case Kinds.ROTTEN: return "rotten";
                case Kinds.WIND: return "wind";
                case Kinds.DOUBLE: return "double";
                default: return "egg";
            }
        }

        private boolean isAhead(String word) {
            if (token != WORD || word == null || word.length() != end - start) {
                return false;
            }
            for (int i = 0; i < word.length(); i++) {
                if (word.charAt(i) != tape.at(start + i)) {
                    return false;
                }
            }
            return true;
        }

        private void advance() {
            while (end < Tape.MOST && tape.at(end) == ' ') {
                end++;
            }
            start = end;
            token = sortOf(tape.at(end));
            value = 0;
            if (token == SIGN || token == OTHER) {
                end++;
                return;
            }
            while (token != END && end < Tape.MOST && sortOf(tape.at(end)) == token) {
                value = token == NUMBER ? Math.min(value * 10 + tape.at(end) - '0', TOO_GREAT) : 0;
                end++;
            }
        }

        private static int sortOf(int b) {
            if (b >= 'a' && b <= 'z') {
                return WORD;
            }
            if (b >= '0' && b <= '9') {
                return NUMBER;
            }
            if (b < 0) {
                return END;
            }
            return b == ';' ? SIGN : OTHER;
        }
    }
}
