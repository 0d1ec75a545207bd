import java.util.Arrays;

/** Houses offered down a list of people, week by week, by rules that are told in texts. */
public final class ThreeOffers {
    public static final int NONE = -1, UNKNOWN = -2, OUTSIDE = -3, NOT = -4, FULL = -5;

    private static final int KINDS = 4, SORTS = 4;
    private static final int MOST_WORTH = 99, MOST_NEED = 9, MOST_POINTS = 99;
    private static final int MOST_IN_ROW = 24, MOST_PERSONS = 12, MOST_HOLDERS = 8;
    private static final int MOST_WEEKS = 2000, MOST_AT_ONCE = 100;
    private static final int MOST_AHEAD = 60, MOST_AT_REST = 40;
    private static final int MOST_BYTES = 160, MOST_LINES = 12, BYTES_AT_ONCE = 8;
    private static final int MOST_IN_LOT = 6, MOST_IN_LOT_HOUSES = 4;
    private static final int MOST_LENGTH = 6, TENTHS = 10;
    private static final int LEAST_INT = -2147483648;

    private static final int BY_TIME = 0, BY_NEED = 1, BY_POINTS = 2, ORDERS = 3;
    private static final int END = 0, BACK = 1, ENDS = 3;
    private static final int NOES_TRIED = 4;
    private static final int ANY = 0, BAR = 1, FALL = 2;

    private static final int HOUSED = 0, WAITED = 1, GOT = 2, GONE = 3, AWAY = 4, COST = 5, TALLIES = 6;

    private static final int BARS = 5, SETTINGS = 625;
    private static final int[] FIGURES = {1, 5, 25, 125};
    private static final int[] FACTORIALS = {1, 1, 2, 6, 24, 120, 720};

    private final Town town = new Town();
    private final Rules told = new Rules();
    private final Rules draft = new Rules();
    private final Text text = new Text();
    private final Course now = new Course(town);
    private final Course trial = new Course(town);
    private final Rest settings = new Rest(town);
    private final Lot draw = new Lot(town);
    private final Holders holders = new Holders(town);
    private final Swaps exchange = new Swaps(holders);
    private final Chain moves = new Chain(holders);

    public ThreeOffers() {
    }

    // ---- the town

    public int worth(int sort, int kind, int v) {
        if (!isSort(sort) || !isKind(kind)) return UNKNOWN;
        if (!within(v, 0, MOST_WORTH)) return OUTSIDE;
        int was = town.worths[sort][kind];
        town.worths[sort][kind] = v;
        settings.forget();
        return was;
    }

    public int need(int sort, int v) {
        if (!isSort(sort)) return UNKNOWN;
        if (!within(v, 1, MOST_NEED)) return OUTSIDE;
        int was = town.needs[sort];
        town.needs[sort] = v;
        settings.forget();
        return was;
    }

    public int coming(int kind) {
        if (kind != NONE && !isKind(kind)) return UNKNOWN;
        if (town.houses.isFull()) return FULL;
        settings.forget();
        return town.houses.add(kind);
    }

    public int joining(int sort) {
        if (sort != NONE && !isSort(sort)) return UNKNOWN;
        if (town.comers.isFull()) return FULL;
        settings.forget();
        return town.comers.add(sort);
    }

    public int join(int sort) {
        if (!isSort(sort)) return UNKNOWN;
        if (now.isFull()) return FULL;
        settings.forget();
        now.add(sort);
        return now.size;
    }

    public int run(int n) {
        if (!within(n, 1, MOST_AT_ONCE) || now.week + n > MOST_WEEKS) return OUTSIDE;
        settings.forget();
        now.pass(n, told);
        return now.week;
    }

    public int person(int place, int what) {
        if (!within(place, 0, now.size - 1)) return UNKNOWN;
        now.stand(told.order);
        Person one = now.list[place];
        switch (what) {
            case 0: return one.sort;
            case 1: return one.number;
            case 2: return one.points;
            case 3: return one.noes;
            case 4: return one.waited;
            default: return OUTSIDE;
        }
    }

    public int of(int sort, int what) {
        if (!isSort(sort)) return UNKNOWN;
        if (!within(what, 0, TALLIES - 1)) return OUTSIDE;
        return now.tallies[what][sort];
    }

    public int empty() {
        return now.emptyHouses;
    }

    // ---- rules

    public int write(long bytes, int n) {
        if (!within(n, 1, BYTES_AT_ONCE)) return OUTSIDE;
        if (text.length + n > MOST_BYTES) return FULL;
        for (int i = 0; i < n; i++) text.add((char) (bytes >> 8 * i & 255));
        return text.length;
    }

    public int erase() {
        int had = text.length;
        text.length = 0;
        return had;
    }

    public int fault() {
        return text.readInto(draft);
    }

    public int rules() {
        if (text.readInto(draft) != NONE) return NOT;
        told.copy(draft);
        text.length = 0;
        settings.forget();
        return text.lines;
    }

    public int rule(int what) {
        switch (what) {
            case 0: return told.order;
            case 1: return told.noes;
            case 2: return told.then;
            case 3: return told.grow;
            default: return OUTSIDE;
        }
    }

    public int way(int sort, int what) {
        if (!isSort(sort)) return UNKNOWN;
        switch (what) {
            case 0: return told.ways[sort];
            case 1: return told.bars[sort];
            case 2: return told.falls[sort];
            default: return OUTSIDE;
        }
    }

    // ---- what would be

    public int would(int n, int what) {
        if (!within(n, 1, MOST_AHEAD) || !within(what, 0, 4)) return OUTSIDE;
        tryOut(n, told);
        switch (what) {
            case 0: return trial.total(COST);
            case 1: return trial.total(HOUSED);
            case 2: return trial.emptyHouses;
            case 3: return trial.total(GONE);
            default: return trial.total(AWAY);
        }
    }

    public int gain(int sort, int n) {
        if (!isSort(sort) || !within(n, 1, MOST_AHEAD)) return LEAST_INT;
        tryOut(n, told);
        return trial.gained(sort);
    }

    public int best(int n, int what) {
        if (!within(n, 1, MOST_AHEAD) || !within(what, 0, 1)) return OUTSIDE;
        draft.copy(told);
        int found = NONE;
        int least = 0;
        for (int number = 0; number < ORDERS * NOES_TRIED * ENDS; number++) {
            draft.order = number / (NOES_TRIED * ENDS);
            draft.noes = number / ENDS % NOES_TRIED;
            draft.then = number % ENDS;
            tryOut(n, draft);
            int cost = trial.total(COST);
            if (found == NONE || cost < least) {
                least = cost;
                found = number;
            }
        }
        return what == 0 ? found : least;
    }

    public int rest(int n, int i) {
        if (!within(n, 1, MOST_AT_REST) || i < NONE) return OUTSIDE;
        if (!settings.areKnownFor(n)) {
            draft.copy(told);
            settings.find(n, now, trial, draft);
        }
        if (i == NONE) return settings.many;
        return i < settings.many ? settings.found[i] : NONE;
    }

    // ---- lots, swaps, the long run

    public int lot(int place, int houses, int n, int kind, int part) {
        int people = Math.min(now.size, MOST_IN_LOT);
        if (!within(place, 0, people - 1) || kind != NONE && !isKind(kind)) return UNKNOWN;
        if (!within(n, 1, MOST_IN_LOT_HOUSES) || !within(part, 0, 1)) return OUTSIDE;
        now.stand(told.order);
        draw.gather(now, people);
        draw.lay(houses, n);
        return (int) lowest(draw.rowsFor(place, kind), FACTORIALS[people], part);
    }

    public int holder(int sort, int kind) {
        if (!isSort(sort) || !isKind(kind)) return UNKNOWN;
        if (holders.many == MOST_HOLDERS) return FULL;
        return holders.add(sort, kind);
    }

    public int swaps(int holder) {
        if (!within(holder, 0, holders.many - 1)) return UNKNOWN;
        exchange.settle();
        return exchange.gets[holder];
    }

    public int rings() {
        exchange.settle();
        return exchange.ringsOfSeveral;
    }

    public int chain(int kind, int i) {
        if (!isKind(kind)) return UNKNOWN;
        if (i < NONE) return OUTSIDE;
        moves.find(kind);
        if (i == NONE) return moves.length;
        return i < moves.length ? moves.longest[i] : NONE;
    }

    public long mean(int p, int q, int most, int part) {
        if (!within(p, 1, TENTHS - 1) || !within(q, 1, TENTHS - 1)) return OUTSIDE;
        if (!within(most, 1, MOST_LENGTH) || !within(part, 0, 1)) return OUTSIDE;
        // In the long run as many weeks step from k to k + 1 as back, so that length k
        // weighs longer to the power k times shorter to the power most - k.
        long longer = (long) p * (TENTHS - q);
        long shorter = (long) q * (TENTHS - p);
        long lengths = 0;
        long weights = 0;
        for (int k = 0; k <= most; k++) {
            long weight = power(longer, k) * power(shorter, most - k);
            lengths += k * weight;
            weights += weight;
        }
        return lowest(lengths, weights, part);
    }

    public int count(int what) {
        switch (what) {
            case 0: return now.week;
            case 1: return now.size;
            case 2: return town.houses.size;
            case 3: return town.comers.size;
            case 4: return text.length;
            case 5: return holders.many;
            case 6: return now.nextNumber;
            default: return OUTSIDE;
        }
    }

    private void tryOut(int weeks, Rules rules) {
        trial.beginLike(now);
        trial.pass(weeks, rules);
    }

    private static boolean within(int v, int least, int most) {
        return v >= least && v <= most;
    }

    private static boolean isSort(int sort) {
        return within(sort, 0, SORTS - 1);
    }

    private static boolean isKind(int kind) {
        return within(kind, 0, KINDS - 1);
    }

    private static long power(long base, int times) {
        long product = 1;
        for (int i = 0; i < times; i++) product *= base;
        return product;
    }

    private static long lowest(long above, long below, int part) {
        long divisor = commonDivisor(above, below);
        if (divisor == 0) return 0;
        return part == 0 ? above / divisor : below / divisor;
    }

    private static long commonDivisor(long a, long b) {
        // Two steps halve the rest at least, so that 128 are enough for any two longs.
        for (int step = 0; step < 128 && b != 0; step++) {
            long rest = a % b;
            a = b;
            b = rest;
        }
        return a;
    }

    /** A row told ahead, gone through again and again: a kind or a sort each week, or none. */
    private static final class Row {
        private final int[] items = new int[MOST_IN_ROW];
        int size = 0;

        boolean isFull() {
            return size >= MOST_IN_ROW;
        }

        int add(int item) {
            if (!isFull()) {
                items[size] = item;
                size++;
            }
            return size;
        }

        int inWeek(int week) {
            return size == 0 ? NONE : items[week % size];
        }
    }

    /** What holds for the weeks gone by and for those that would be alike. */
    private static final class Town {
        final int[][] worths = new int[SORTS][KINDS];
        final int[] needs = new int[SORTS];
        final Row houses = new Row();
        final Row comers = new Row();

        Town() {
            Arrays.fill(needs, 1);
        }
    }

    private static final class Rules {
        int order;
        int noes;
        int then;
        int grow;
        final int[] ways = new int[SORTS];
        final int[] bars = new int[SORTS];
        final int[] falls = new int[SORTS];

        Rules() {
            setAsAtFirst();
        }

        void setAsAtFirst() {
            order = BY_TIME;
            noes = 2;
            then = END;
            grow = 1;
            for (int sort = 0; sort < SORTS; sort++) setWay(sort, ANY, 0, 0);
        }

        void copy(Rules other) {
            order = other.order;
            noes = other.noes;
            then = other.then;
            grow = other.grow;
            for (int sort = 0; sort < SORTS; sort++) {
                setWay(sort, other.ways[sort], other.bars[sort], other.falls[sort]);
            }
        }

        void setWay(int sort, int way, int bar, int fall) {
            ways[sort] = way;
            bars[sort] = bar;
            falls[sort] = fall;
        }

        boolean takes(int sort, int worth, int waited) {
            switch (ways[sort]) {
                case BAR: return worth >= bars[sort];
                case FALL: return worth >= bars[sort] - falls[sort] * waited;
                default: return true;
            }
        }
    }

    /** The text of the rules, and its reader, which stands at one token at a time. */
    private static final class Text {
        private static final int OTHER = 0, LETTER = 1, DIGIT = 2;
        private static final int MOST_DIGITS = 2;

        private final char[] signs = new char[MOST_BYTES];
        int length = 0;
        /** How many the last reading went through. */
        int lines = 0;
        private int start;
        private int end;
        private int look;

        void add(char sign) {
            if (length < MOST_BYTES) {
                signs[length] = sign;
                length++;
            }
        }

        /** Answers the place of the fault, or NONE; with a fault the rules are half read. */
        int readInto(Rules rules) {
            rules.setAsAtFirst();
            end = 0;
            goOn();
            for (int line = 1; line <= MOST_LINES; line++) {
                if (!readLine(rules)) return start;
                lines = line;
                if (start == length) return NONE;
                if (line == MOST_LINES || !pass(";")) return start;
            }
            return start;
        }

        private boolean readLine(Rules rules) {
            if (pass("order")) {
                rules.order = choose("time", "need", "points");
                return rules.order != NONE;
            }
            if (pass("noes")) {
                rules.noes = number(9);
                return rules.noes != NONE;
            }
            if (pass("then")) {
                rules.then = choose("end", "back", "stay");
                return rules.then != NONE;
            }
            if (pass("grow")) {
                rules.grow = number(9);
                return rules.grow != NONE;
            }
            return pass("way") && readWay(rules);
        }

        private boolean readWay(Rules rules) {
            int sort = number(SORTS - 1);
            if (sort == NONE) return false;
            int way = choose("any", "bar", "fall");
            if (way == NONE) return false;
            int bar = way == ANY ? 0 : number(MOST_WORTH);
            if (bar == NONE) return false;
            int fall = way == FALL ? number(9) : 0;
            if (fall == NONE) return false;
            rules.setWay(sort, way, bar, fall);
            return true;
        }

        private int choose(String first, String second, String third) {
            if (pass(first)) return 0;
            if (pass(second)) return 1;
            return pass(third) ? 2 : NONE;
        }

        private int number(int most) {
            if (look != DIGIT || end - start > MOST_DIGITS) return NONE;
            int value = 0;
            for (int i = start; i < end; i++) value = value * 10 + signs[i] - '0';
            if (value > most) return NONE;
            goOn();
            return value;
        }

        private boolean pass(String word) {
            if (end - start != word.length()) return false;
            for (int i = 0; i < word.length(); i++) {
                if (signs[start + i] != word.charAt(i)) return false;
            }
            goOn();
            return true;
        }

        private void goOn() {
            start = end;
            while (start < length && signs[start] == ' ') start++;
            end = start;
            look = OTHER;
            if (start == length) return;
            look = lookOf(signs[start]);
            end++;
            while (look != OTHER && end < length && lookOf(signs[end]) == look) end++;
        }

        private static int lookOf(char sign) {
            if (sign >= 'a' && sign <= 'z') return LETTER;
            return sign >= '0' && sign <= '9' ? DIGIT : OTHER;
        }
    }

    private static final class Person {
        int sort;
        int number;
        int points;
        int noes;
        int waited;

        void begin(int itsSort, int itsNumber) {
            sort = itsSort;
            number = itsNumber;
            points = 0;
            noes = 0;
            waited = 0;
        }

        void copy(Person other) {
            sort = other.sort;
            number = other.number;
            points = other.points;
            noes = other.noes;
            waited = other.waited;
        }
    }

    /** The list as weeks go by, and what they brought. */
    private static final class Course {
        private final Town town;
        /** Those behind the first size are free to be used again. */
        final Person[] list = new Person[MOST_PERSONS];
        int size = 0;
        int week = 0;
        int nextNumber = 0;
        int emptyHouses = 0;
        final int[][] tallies = new int[TALLIES][SORTS];

        Course(Town town) {
            this.town = town;
            for (int i = 0; i < MOST_PERSONS; i++) list[i] = new Person();
        }

        /** The list and the week are the other's, but nothing has been brought yet. */
        void beginLike(Course other) {
            size = other.size;
            week = other.week;
            nextNumber = other.nextNumber;
            emptyHouses = 0;
            for (int i = 0; i < size; i++) list[i].copy(other.list[i]);
            for (int what = 0; what < TALLIES; what++) Arrays.fill(tallies[what], 0);
        }

        boolean isFull() {
            return size >= MOST_PERSONS;
        }

        void add(int sort) {
            if (isFull()) return;
            list[size].begin(sort, nextNumber);
            nextNumber++;
            size++;
        }

        int total(int what) {
            int sum = 0;
            for (int sort = 0; sort < SORTS; sort++) sum += tallies[what][sort];
            return sum;
        }

        int gained(int sort) {
            return tallies[GOT][sort] - tallies[COST][sort];
        }

        void pass(int weeks, Rules rules) {
            for (int i = 0; i < weeks; i++) {
                int kind = town.houses.inWeek(week);
                if (kind != NONE) offer(kind, rules);
                int sort = town.comers.inWeek(week);
                if (sort != NONE) arrive(sort);
                growOlder(rules.grow);
                week++;
            }
        }

        /** Puts the list in order; from week to week it is nearly so already. */
        void stand(int order) {
            for (int i = 1; i < size; i++) {
                Person one = list[i];
                int place = i;
                while (place > 0 && isAhead(one, list[place - 1], order)) {
                    list[place] = list[place - 1];
                    place--;
                }
                list[place] = one;
            }
        }

        private boolean isAhead(Person one, Person other, int order) {
            int more = 0;
            if (order == BY_NEED) more = town.needs[one.sort] - town.needs[other.sort];
            if (order == BY_POINTS) more = one.points - other.points;
            return more > 0 || more == 0 && one.number < other.number;
        }

        private void offer(int kind, Rules rules) {
            stand(rules.order);
            boolean taken = false;
            int staying = 0;
            for (int place = 0; place < size; place++) {
                Person one = list[place];
                boolean leaves = false;
                if (!taken) {
                    taken = rules.takes(one.sort, town.worths[one.sort][kind], one.waited);
                    leaves = taken || sayNo(one, rules);
                    if (taken) house(one, kind);
                }
                if (!leaves) {
                    list[place] = list[staying];
                    list[staying] = one;
                    staying++;
                }
            }
            size = staying;
            if (!taken) emptyHouses++;
        }

        private void house(Person one, int kind) {
            tallies[HOUSED][one.sort]++;
            tallies[WAITED][one.sort] += one.waited;
            tallies[GOT][one.sort] += town.worths[one.sort][kind];
        }

        /** Answers whether the person is gone by it. */
        private boolean sayNo(Person one, Rules rules) {
            one.noes++;
            if (one.noes <= rules.noes) return false;
            if (rules.then == END) {
                tallies[GONE][one.sort]++;
                return true;
            }
            if (rules.then == BACK) {
                one.number = nextNumber;
                nextNumber++;
                one.points = 0;
                one.noes = 0;
            }
            return false;
        }

        private void arrive(int sort) {
            if (isFull()) {
                tallies[AWAY][sort]++;
            } else {
                add(sort);
            }
        }

        private void growOlder(int grow) {
            for (int i = 0; i < size; i++) {
                Person one = list[i];
                one.waited++;
                one.points = Math.min(one.points + grow, MOST_POINTS);
                tallies[COST][one.sort] += town.needs[one.sort];
            }
        }
    }

    /** The settings at rest, kept till something changes, as they are asked for one by one. */
    private static final class Rest {
        private final Town town;
        private final int[] gains = new int[SETTINGS * SORTS];
        /** Of each bar of a sort the least bar by which the same kinds are taken. */
        private final int[][] like = new int[SORTS][BARS];
        final int[] found = new int[SETTINGS];
        int many = 0;
        private int knownFor = 0;

        Rest(Town town) {
            this.town = town;
        }

        void forget() {
            knownFor = 0;
        }

        boolean areKnownFor(int weeks) {
            return knownFor == weeks;
        }

        void find(int weeks, Course now, Course trial, Rules rules) {
            findLikeBars();
            for (int setting = 0; setting < SETTINGS; setting++) {
                int same = likeSetting(setting);
                if (same == setting) {
                    setWays(rules, setting);
                    trial.beginLike(now);
                    trial.pass(weeks, rules);
                }
                for (int sort = 0; sort < SORTS; sort++) {
                    gains[setting * SORTS + sort] = same == setting ? trial.gained(sort) : gains[same * SORTS + sort];
                }
            }
            many = 0;
            for (int setting = 0; setting < SETTINGS; setting++) {
                if (isAtRest(setting)) {
                    found[many] = setting;
                    many++;
                }
            }
            knownFor = weeks;
        }

        private void findLikeBars() {
            for (int sort = 0; sort < SORTS; sort++) {
                for (int bar = 0; bar < BARS; bar++) {
                    int least = 0;
                    while (least < bar && kindsTaken(sort, least) != kindsTaken(sort, bar)) least++;
                    like[sort][bar] = least;
                }
            }
        }

        private int kindsTaken(int sort, int bar) {
            int taken = 0;
            for (int kind = 0; kind < KINDS; kind++) {
                if (bar == 0 || town.worths[sort][kind] >= town.worths[sort][bar - 1]) taken |= 1 << kind;
            }
            return taken;
        }

        /** Never a greater number than the setting's own, as each figure of it is none greater. */
        private int likeSetting(int setting) {
            int same = 0;
            for (int sort = 0; sort < SORTS; sort++) {
                same += like[sort][barOf(setting, sort)] * FIGURES[sort];
            }
            return same;
        }

        private static int barOf(int setting, int sort) {
            return setting / FIGURES[sort] % BARS;
        }

        private void setWays(Rules rules, int setting) {
            for (int sort = 0; sort < SORTS; sort++) {
                int bar = barOf(setting, sort);
                if (bar == 0) {
                    rules.setWay(sort, ANY, 0, 0);
                } else {
                    rules.setWay(sort, BAR, town.worths[sort][bar - 1], 0);
                }
            }
        }

        private boolean isAtRest(int setting) {
            for (int sort = 0; sort < SORTS; sort++) {
                int without = setting - barOf(setting, sort) * FIGURES[sort];
                for (int bar = 0; bar < BARS; bar++) {
                    int other = without + bar * FIGURES[sort];
                    if (gains[other * SORTS + sort] > gains[setting * SORTS + sort]) return false;
                }
            }
            return true;
        }
    }

    /** Told houses for the first on the list, who take in a row drawn by lot. */
    private static final class Lot {
        private final Town town;
        private final int[] sorts = new int[MOST_IN_LOT];
        private int people = 0;
        private final int[] left = new int[KINDS];

        Lot(Town town) {
            this.town = town;
        }

        void gather(Course course, int many) {
            people = Math.min(many, Math.min(course.size, MOST_IN_LOT));
            for (int i = 0; i < people; i++) sorts[i] = course.list[i].sort;
        }

        void lay(int houses, int n) {
            Arrays.fill(left, 0);
            for (int i = 0; i < n; i++) left[houses >> 2 * i & 3]++;
        }

        /** How many of all rows bring the person a house of the kind, or any (NONE). */
        int rowsFor(int person, int kind) {
            return rowsFrom(0, 0, person, kind);
        }

        private int rowsFrom(int drawn, int drawnOnes, int person, int kind) {
            int rows = 0;
            if (drawn >= people) return rows;
            for (int one = 0; one < people; one++) {
                if ((drawnOnes >> one & 1) != 0) continue;
                int taken = kindTaken(sorts[one]);
                if (taken == NONE) return 0;
                if (one != person) {
                    left[taken]--;
                    rows += rowsFrom(drawn + 1, drawnOnes | 1 << one, person, kind);
                    left[taken]++;
                } else if (kind == NONE || kind == taken) {
                    // Whoever comes later changes nothing for this person.
                    rows += FACTORIALS[people - drawn - 1];
                }
            }
            return rows;
        }

        private int kindTaken(int sort) {
            int taken = NONE;
            for (int kind = 0; kind < KINDS; kind++) {
                if (left[kind] == 0) continue;
                if (taken == NONE || town.worths[sort][kind] > town.worths[sort][taken]) taken = kind;
            }
            return taken;
        }
    }

    private static final class Holders {
        private final Town town;
        private final int[] sorts = new int[MOST_HOLDERS];
        final int[] kinds = new int[MOST_HOLDERS];
        int many = 0;

        Holders(Town town) {
            this.town = town;
        }

        int add(int sort, int kind) {
            if (many >= MOST_HOLDERS) return FULL;
            sorts[many] = sort;
            kinds[many] = kind;
            many++;
            return many - 1;
        }

        boolean likesMore(int one, int kind, int otherKind) {
            int[] worths = town.worths[sorts[one]];
            return worths[kind] > worths[otherKind];
        }
    }

    /** Who gets whose house; a set of holders is the bits of a number. */
    private static final class Swaps {
        private final Holders holders;
        final int[] gets = new int[MOST_HOLDERS];
        int ringsOfSeveral = 0;

        Swaps(Holders holders) {
            this.holders = holders;
        }

        void settle() {
            ringsOfSeveral = 0;
            int there = (1 << holders.many) - 1;
            for (int round = 0; round < MOST_HOLDERS && there != 0; round++) there = closeRing(there);
        }

        /** Closes one ring and answers who is still there; which ring comes first changes nothing. */
        private int closeRing(int there) {
            int one = Integer.numberOfTrailingZeros(there);
            // After as many steps as there are holders one stands in a ring.
            for (int step = 0; step < MOST_HOLDERS; step++) one = pointedTo(one, there);
            int left = there;
            int length = 0;
            while (length < MOST_HOLDERS && (left >> one & 1) != 0) {
                left &= ~(1 << one);
                gets[one] = pointedTo(one, there);
                one = gets[one];
                length++;
            }
            if (length > 1) ringsOfSeveral++;
            return left;
        }

        private int pointedTo(int one, int there) {
            int liked = one;
            for (int other = 0; other < holders.many; other++) {
                if ((there >> other & 1) == 0) continue;
                if (holders.likesMore(one, holders.kinds[other], holders.kinds[liked])) liked = other;
            }
            return liked;
        }
    }

    /** The longest row of moves that an empty house begins. */
    private static final class Chain {
        private final Holders holders;
        private final int[] tried = new int[MOST_HOLDERS];
        final int[] longest = new int[MOST_HOLDERS];
        int length = 0;

        Chain(Holders holders) {
            this.holders = holders;
        }

        void find(int kind) {
            length = 0;
            goOn(0, 0, kind);
        }

        /** Tries rows by holders, so that the first of the longest is the one that is kept. */
        private void goOn(int depth, int moved, int kind) {
            if (depth > length) {
                length = depth;
                System.arraycopy(tried, 0, longest, 0, depth);
            }
            if (depth >= holders.many) return;
            for (int one = 0; one < holders.many && length < holders.many; one++) {
                if ((moved >> one & 1) != 0) continue;
                if (!holders.likesMore(one, kind, holders.kinds[one])) continue;
                tried[depth] = one;
                goOn(depth + 1, moved | 1 << one, holders.kinds[one]);
            }
        }
    }
}
