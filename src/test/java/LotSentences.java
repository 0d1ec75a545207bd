/** Boundaries of lots, holders, swaps, chains and the long run; promises 21 to 26. */
final class LotSentences {
    private static final int NONE = -1, UNKNOWN = -2, OUTSIDE = -3, FULL = -5;
    private static final int LEAST = Integer.MIN_VALUE, GREATEST = Integer.MAX_VALUE;
    /** A house of each kind: KIND i in the bits 2 i. */
    private static final int EACH_KIND = 0b11_10_01_00;

    private LotSentences() {
    }

    private static ThreeOffers listOf(int... sorts) {
        ThreeOffers x = new ThreeOffers();
        for (int sort : sorts) x.join(sort);
        return x;
    }

    private static void chance(Check check, ThreeOffers x, int[] asked, int above, int below) {
        String call = "lot of " + asked[2] + " of " + asked[1] + " at " + asked[0] + " for kind " + asked[3];
        check.due(call + ", above", x.lot(asked[0], asked[1], asked[2], asked[3], 0), above);
        check.due(call + ", below", x.lot(asked[0], asked[1], asked[2], asked[3], 1), below);
    }

    private static int[] lot(int place, int houses, int n, int kind) {
        return new int[] {place, houses, n, kind};
    }

    @Holds(promise = 21, says = "A LOT: of the first m PERSONS in ORDER now (m all there are, 6 at most) each row is as"
        + " likely;")
    static void firstPersons(Check check) {
        ThreeOffers x = new ThreeOffers();
        check.due("nobody", x.lot(0, 0, 1, 0, 0), UNKNOWN);
        for (int m = 1; m <= 12; m++) {
            x.join(0);
            int in = Math.min(m, 6);
            chance(check, x, lot(0, 0, 1, 0), 1, in);
            chance(check, x, lot(in - 1, 0, 1, 0), 1, in);
            check.due("behind the last of " + m, x.lot(in, 0, 1, 0, 0), UNKNOWN);
        }
        // By need the last but one of eight is the first, and the sixth in order is not the sixth by time.
        ThreeOffers needy = listOf(0, 0, 0, 0, 0, 1, 2, 1);
        needy.need(2, 9);
        needy.worth(2, 3, 5);
        chance(check, needy, lot(0, 0b1100, 2, 3), 1, 6);
        Texts.put(needy, "order need");
        needy.rules();
        chance(check, needy, lot(0, 0b1100, 2, 3), 1, 3);
        chance(check, needy, lot(0, 0b1100, 2, 0), 0, 1);
        // The sixth takes kind 3 only as the second one, whom the needy one did not come ahead of.
        chance(check, needy, lot(5, 0b1100, 2, 3), 2, 15);
    }

    @Holds(promise = 21, says = "one after the other takes, of told houses (a row of 1 to 4 KINDS) that are left, the one"
        + " of most WORTH to its SORT,")
    static void takesMostWorth(Check check) {
        ThreeOffers x = listOf(0);
        for (int kind = 0; kind <= 3; kind++) {
            x.worth(0, kind, 9);
            chance(check, x, lot(0, EACH_KIND, 4, kind), 1, 1);
            chance(check, x, lot(0, EACH_KIND, 4, (kind + 1) % 4), 0, 1);
            x.worth(0, kind, 0);
        }
        chance(check, x, lot(0, 3, 1, 3), 1, 1);
        check.due("no house", x.lot(0, 3, 0, 3, 0), OUTSIDE);
        check.due("five houses", x.lot(0, 3, 5, 3, 0), OUTSIDE);
        x.worth(0, 2, 9);
        chance(check, x, lot(0, EACH_KIND, 2, 2), 0, 1);
        chance(check, x, lot(0, EACH_KIND, 3, 2), 1, 1);
        x.worth(0, 1, 8);
        x.join(0);
        // Who comes second takes the next best, or another of the same kind.
        chance(check, x, lot(1, EACH_KIND, 4, 2), 1, 2);
        chance(check, x, lot(1, EACH_KIND, 4, 1), 1, 2);
        chance(check, x, lot(1, 0b10_10_01, 3, 2), 1, 1);
        chance(check, x, lot(1, 0b10_10_01, 3, 1), 0, 1);
    }

    @Holds(promise = 21, says = "of several the least KIND;")
    static void takesLeastKind(Check check) {
        ThreeOffers x = listOf(0);
        chance(check, x, lot(0, EACH_KIND, 4, 0), 1, 1);
        chance(check, x, lot(0, 0b10_11, 2, 2), 1, 1);
        chance(check, x, lot(0, 0b11_10, 2, 2), 1, 1);
        x.worth(0, 1, 9);
        x.worth(0, 3, 9);
        chance(check, x, lot(0, EACH_KIND, 4, 1), 1, 1);
        chance(check, x, lot(0, EACH_KIND, 4, 3), 0, 1);
    }

    @Holds(promise = 21, says = "as long as there are some.")
    static void whileSomeAreLeft(Check check) {
        ThreeOffers x = listOf(0, 1, 2, 3, 0, 1);
        int[][] any = {{1, 6}, {1, 3}, {1, 2}, {2, 3}};
        for (int n = 1; n <= 4; n++) chance(check, x, lot(5, EACH_KIND, n, -1), any[n - 1][0], any[n - 1][1]);
        ThreeOffers few = listOf(0, 1);
        chance(check, few, lot(0, EACH_KIND, 4, -1), 1, 1);
        chance(check, few, lot(0, EACH_KIND, 1, -1), 1, 2);
    }

    @Holds(promise = 21, says = "CHANCE that one of them (its place in ORDER) gets a KIND, or any.")
    static void chanceOfKind(Check check) {
        ThreeOffers x = listOf(0, 1, 0);
        x.worth(0, 1, 9);
        x.worth(1, 1, 9);
        for (int place = 0; place <= 2; place++) {
            chance(check, x, lot(place, 0b01_00, 2, 0), 1, 3);
            chance(check, x, lot(place, 0b01_00, 2, 1), 1, 3);
            chance(check, x, lot(place, 0b01_00, 2, 2), 0, 1);
            chance(check, x, lot(place, 0b01_00, 2, -1), 2, 3);
        }
    }

    @Holds(promise = 21, says = "A LOT of n houses (KIND i houses >> 2 i & 3): CHANCE of the PERSON at a place in ORDER"
        + " to get a KIND, or any (-1).")
    static void housesTold(Check check) {
        ThreeOffers x = listOf(0);
        chance(check, x, lot(0, -1, 1, 3), 1, 1);
        chance(check, x, lot(0, -1, 4, 3), 1, 1);
        chance(check, x, lot(0, -1, 4, 0), 0, 1);
        chance(check, x, lot(0, LEAST, 4, 0), 1, 1);
        chance(check, x, lot(0, GREATEST, 4, 3), 1, 1);
        // Bits behind the houses tell none.
        chance(check, x, lot(0, 0b00_00_00_11, 1, 3), 1, 1);
        chance(check, x, lot(0, 0b01_11_11_11_11, 4, 3), 1, 1);
        chance(check, x, lot(0, 0b11_11_11_11, 4, -1), 1, 1);
        x.worth(0, 2, 1);
        for (int i = 0; i <= 3; i++) chance(check, x, lot(0, 2 << 2 * i, 4, 2), 1, 1);
    }

    @Holds(promise = 21, says = "UNKNOWN: place (0 .. m - 1), KIND;")
    static void lotUnknown(Check check) {
        ThreeOffers x = listOf(0, 0, 0);
        check.due("the first", x.lot(0, 0, 1, 0, 1), 3);
        check.due("the last", x.lot(2, 0, 1, 0, 1), 3);
        check.due("place 3 of 3", x.lot(3, 0, 1, 0, 1), UNKNOWN);
        check.due("place -1", x.lot(-1, 0, 1, 0, 1), UNKNOWN);
        check.due("the greatest place", x.lot(GREATEST, 0, 1, 0, 1), UNKNOWN);
        check.due("the least place", x.lot(LEAST, 0, 1, 0, 1), UNKNOWN);
        check.due("kind -1 is any", x.lot(0, 0, 1, -1, 1), 3);
        check.due("kind -2", x.lot(0, 0, 1, -2, 1), UNKNOWN);
        check.due("kind 3", x.lot(0, 3, 1, 3, 1), 3);
        check.due("kind 4", x.lot(0, 0, 1, 4, 1), UNKNOWN);
        for (int i = 0; i < 9; i++) x.join(0);
        check.due("place 5 of 12", x.lot(5, 0, 1, 0, 1), 6);
        check.due("place 6 of 12", x.lot(6, 0, 1, 0, 1), UNKNOWN);
        check.due("on the list all the same", x.person(6, 1), 6);
    }

    @Holds(promise = 21, says = "OUTSIDE: n (1 .. 4), part.")
    static void lotOutside(Check check) {
        ThreeOffers x = listOf(0);
        check.due("n 1", x.lot(0, 0, 1, 0, 0), 1);
        check.due("n 4", x.lot(0, 0, 4, 0, 0), 1);
        check.due("n 0", x.lot(0, 0, 0, 0, 0), OUTSIDE);
        check.due("n 5", x.lot(0, 0, 5, 0, 0), OUTSIDE);
        check.due("the greatest n", x.lot(0, 0, GREATEST, 0, 0), OUTSIDE);
        check.due("the least n", x.lot(0, 0, LEAST, 0, 0), OUTSIDE);
        check.due("part -1", x.lot(0, 0, 1, 0, -1), OUTSIDE);
        check.due("part 2", x.lot(0, 0, 1, 0, 2), OUTSIDE);
        check.due("place and n wrong", x.lot(1, 0, 0, 0, 0), UNKNOWN);
        check.due("kind and part wrong", x.lot(0, 0, 1, 4, 2), UNKNOWN);
    }

    @Holds(promise = 22, says = "HOLDERS are 0 .. 7, each of a SORT in a house of a KIND.")
    static void holdersBounds(Check check) {
        ThreeOffers x = new ThreeOffers();
        check.due("none yet", x.swaps(0), UNKNOWN);
        check.due("the first", x.holder(3, 0), 0);
        check.due("is there", x.swaps(0), 0);
        check.due("the second is not", x.swaps(1), UNKNOWN);
        for (int i = 1; i <= 6; i++) x.holder(0, 3);
        check.due("the eighth", x.holder(0, 3), 7);
        check.due("is there", x.swaps(7), 7);
        check.due("a ninth is not", x.holder(0, 3), FULL);
        check.due("there are eight", x.count(5), 8);
        // Sorts and kinds are not taken for one another: sort 0 in kind 3 wishes for kind 0, sort 3 in kind 0 for 3.
        x.worth(0, 0, 5);
        x.worth(3, 3, 5);
        check.due("the first gets the second's", x.swaps(0), 1);
        check.due("and the second the first's", x.swaps(1), 0);
    }

    @Holds(promise = 22, says = "A HOLDER: its number.")
    static void holderNumber(Check check) {
        ThreeOffers x = new ThreeOffers();
        for (int i = 0; i <= 7; i++) check.due("number", x.holder(i % 4, i / 2), i);
        check.due("the list has nobody more", x.count(1), 0);
    }

    @Holds(promise = 22, says = "UNKNOWN; FULL: 8.")
    static void holderRefused(Check check) {
        ThreeOffers x = new ThreeOffers();
        check.due("sort -1", x.holder(-1, 0), UNKNOWN);
        check.due("kind -1", x.holder(0, -1), UNKNOWN);
        for (int i = 0; i < 8; i++) x.holder(0, 0);
        check.due("full", x.holder(0, 0), FULL);
        check.due("sort unknown and full", x.holder(4, 0), UNKNOWN);
        check.due("kind unknown and full", x.holder(0, 4), UNKNOWN);
    }

    private static void swapped(Check check, ThreeOffers x, int... due) {
        for (int one = 0; one < due.length; one++) check.due("house of " + one, x.swaps(one), due[one]);
        check.due("no more holders", x.swaps(due.length), UNKNOWN);
    }

    @Holds(promise = 23, says = "SWAPS: each points to the house (of those still there) of most WORTH to its SORT;")
    static void pointsToMostWorth(Check check) {
        ThreeOffers x = new ThreeOffers();
        x.worth(0, 1, 9);
        x.worth(0, 3, 5);
        x.worth(0, 0, 1);
        x.worth(1, 0, 9);
        x.worth(2, 2, 9);
        x.holder(0, 0);
        swapped(check, x, 0);
        x.holder(1, 1);
        swapped(check, x, 1, 0);
        // The third wishes for kind 1 too, which is there no more, and then for kind 3.
        x.holder(0, 2);
        swapped(check, x, 1, 0, 2);
        x.holder(2, 3);
        swapped(check, x, 1, 0, 3, 2);
    }

    @Holds(promise = 23, says = "of several to its own, else to that of the least HOLDER;")
    static void pointsToOwnOrLeast(Check check) {
        ThreeOffers own = new ThreeOffers();
        for (int i = 0; i < 8; i++) own.holder(i % 4, i % 4);
        swapped(check, own, 0, 1, 2, 3, 4, 5, 6, 7);
        own.worth(0, 1, 5);
        own.worth(0, 0, 5);
        swapped(check, own, 0, 1, 2, 3, 4, 5, 6, 7);
        // Not the least kind: holder 1 has kind 2, holder 2 has kind 1, which are worth as much.
        ThreeOffers least = new ThreeOffers();
        least.worth(0, 1, 5);
        least.worth(0, 2, 5);
        least.worth(1, 0, 5);
        least.holder(0, 0);
        least.holder(1, 2);
        least.holder(1, 1);
        swapped(check, least, 1, 0, 2);
    }

    @Holds(promise = {23, 24}, says = "who stand in a ring get what they point to and are there no more; again till none"
        + " is left.")
    static void ringsLeave(Check check) {
        // Each sort wishes for the next kind: two rings of four, the second when the first is there no more.
        ThreeOffers x = new ThreeOffers();
        for (int sort = 0; sort <= 3; sort++) x.worth(sort, (sort + 1) % 4, 7);
        for (int i = 0; i < 8; i++) x.holder(i % 4, i % 4);
        swapped(check, x, 1, 2, 3, 0, 5, 6, 7, 4);
        check.due("rings", x.rings(), 2);
        ThreeOffers four = new ThreeOffers();
        four.worth(0, 1, 7);
        four.worth(1, 0, 7);
        for (int i = 0; i < 8; i++) four.holder(i % 2, i % 2);
        swapped(check, four, 1, 0, 3, 2, 5, 4, 7, 6);
        check.due("four rings, one after the other", four.rings(), 4);
        check.due("nobody", new ThreeOffers().rings(), 0);
    }

    @Holds(promise = 23, says = "SWAPS: whose house a HOLDER gets.")
    static void whoseHouse(Check check) {
        ThreeOffers x = new ThreeOffers();
        x.holder(2, 3);
        x.holder(3, 2);
        swapped(check, x, 0, 1);
        x.worth(2, 2, 1);
        swapped(check, x, 0, 1);
        x.worth(3, 3, 1);
        swapped(check, x, 1, 0);
        x.worth(3, 3, 0);
        swapped(check, x, 0, 1);
    }

    @Holds(promise = 23, says = "UNKNOWN.")
    static void swapsRefused(Check check) {
        ThreeOffers x = new ThreeOffers();
        check.due("of none", x.swaps(0), UNKNOWN);
        x.holder(0, 0);
        check.due("holder -1", x.swaps(-1), UNKNOWN);
        check.due("holder 1 of 1", x.swaps(1), UNKNOWN);
        for (int i = 0; i < 7; i++) x.holder(0, 0);
        check.due("holder 7 of 8", x.swaps(7), 7);
        check.due("holder 8", x.swaps(8), UNKNOWN);
        check.due("the greatest int", x.swaps(GREATEST), UNKNOWN);
        check.due("the least int", x.swaps(LEAST), UNKNOWN);
    }

    @Holds(promise = 24, says = "How many rings of two HOLDERS or more there are in SWAPS.")
    static void ringsOfTwo(Check check) {
        ThreeOffers x = new ThreeOffers();
        check.due("nobody", x.rings(), 0);
        x.holder(0, 0);
        check.due("a ring of one", x.rings(), 0);
        x.holder(1, 1);
        x.worth(0, 1, 5);
        check.due("two rings of one: one points to the other", x.rings(), 0);
        x.worth(1, 0, 5);
        check.due("a ring of two", x.rings(), 1);
        x.holder(2, 2);
        check.due("and one of one", x.rings(), 1);
        x.worth(1, 2, 6);
        x.worth(2, 0, 6);
        check.due("a ring of three", x.rings(), 1);
    }

    private static void chained(Check check, ThreeOffers x, int kind, int... due) {
        check.due("chain from " + kind, x.chain(kind, -1), due.length);
        for (int i = 0; i < due.length; i++) check.due("chain from " + kind + ", " + i, x.chain(kind, i), due[i]);
        check.due("chain from " + kind + ", behind", x.chain(kind, due.length), NONE);
    }

    @Holds(promise = 25, says = "CHAIN begun by an empty house of a KIND: a row of unlike HOLDERS, the first goes to it,"
        + " each other one to the house of the one ahead,")
    static void chainOfUnlike(Check check) {
        ThreeOffers x = new ThreeOffers();
        chained(check, x, 0);
        x.worth(0, 1, 5);
        x.worth(1, 0, 5);
        x.holder(0, 0);
        chained(check, x, 0);
        chained(check, x, 1, 0);
        x.holder(1, 1);
        // They would go on for ever, if one could go twice.
        chained(check, x, 0, 1, 0);
        chained(check, x, 1, 0, 1);
        chained(check, x, 2);
        ThreeOffers all = new ThreeOffers();
        for (int sort = 0; sort <= 3; sort++) {
            for (int kind = 0; kind <= 3; kind++) all.worth(sort, kind, sort == kind ? 0 : 1);
        }
        for (int i = 0; i < 8; i++) all.holder(i / 2, i / 2);
        chained(check, all, 0, 2, 0, 3, 1, 4, 6, 5, 7);
    }

    @Holds(promise = 25, says = "each to one of more WORTH to it than its own:")
    static void chainToMoreWorth(Check check) {
        ThreeOffers x = new ThreeOffers();
        x.holder(0, 0);
        x.worth(0, 0, 5);
        x.worth(0, 1, 4);
        chained(check, x, 1);
        x.worth(0, 1, 5);
        chained(check, x, 1);
        x.worth(0, 1, 6);
        chained(check, x, 1, 0);
        chained(check, x, 0);
        // To the second the first's house is worth as much as its own, and then one more.
        x.holder(1, 2);
        x.worth(1, 0, 7);
        x.worth(1, 2, 7);
        chained(check, x, 1, 0);
        x.worth(1, 0, 8);
        chained(check, x, 1, 0, 1);
    }

    @Holds(promise = 25, says = "the longest; of several the first (by HOLDERS).")
    static void chainLongest(Check check) {
        ThreeOffers x = new ThreeOffers();
        for (int kind = 0; kind <= 3; kind++) x.worth(0, kind, kind);
        x.holder(0, 0);
        chained(check, x, 3, 0);
        x.holder(0, 2);
        chained(check, x, 3, 1, 0);
        x.holder(0, 2);
        chained(check, x, 3, 1, 0);
        x.holder(0, 1);
        x.holder(0, 1);
        chained(check, x, 3, 1, 3, 0);
        x.holder(0, 0);
        chained(check, x, 3, 1, 3, 0);
        chained(check, x, 1, 0);
    }

    @Holds(promise = 25, says = "CHAIN: how many HOLDERS (i -1), or the i-th;")
    static void chainAsked(Check check) {
        ThreeOffers x = new ThreeOffers();
        check.due("nobody", x.chain(0, -1), 0);
        x.worth(2, 3, 1);
        x.holder(1, 0);
        x.holder(2, 0);
        check.due("how many", x.chain(3, -1), 1);
        check.due("the first", x.chain(3, 0), 1);
        check.due("nobody has gone", x.chain(3, -1), 1);
    }

    @Holds(promise = 25, says = "NONE: there are not so many.")
    static void chainNotSoMany(Check check) {
        ThreeOffers x = new ThreeOffers();
        check.due("the first of none", x.chain(0, 0), NONE);
        x.worth(0, 3, 1);
        x.holder(0, 0);
        check.due("the first of one", x.chain(3, 0), 0);
        check.due("the second of one", x.chain(3, 1), NONE);
        check.due("by far", x.chain(3, GREATEST), NONE);
        check.due("behind all holders", x.chain(3, 8), NONE);
    }

    @Holds(promise = 25, says = "UNKNOWN; OUTSIDE: i below -1.")
    static void chainRefused(Check check) {
        ThreeOffers x = new ThreeOffers();
        check.due("kind -1", x.chain(-1, -1), UNKNOWN);
        check.due("kind 4", x.chain(4, -1), UNKNOWN);
        check.due("i -2", x.chain(3, -2), OUTSIDE);
        check.due("the least i", x.chain(0, LEAST), OUTSIDE);
        check.due("both wrong", x.chain(4, -2), UNKNOWN);
        check.due("both wrong", x.chain(-1, -2), UNKNOWN);
    }

    private static void mean(Check check, int[] asked, long above, long below) {
        ThreeOffers x = new ThreeOffers();
        String call = "mean of " + asked[0] + " " + asked[1] + " " + asked[2];
        check.due(call + ", above", x.mean(asked[0], asked[1], asked[2], 0), above);
        check.due(call + ", below", x.mean(asked[0], asked[1], asked[2], 1), below);
    }

    private static int[] run(int p, int q, int most) {
        return new int[] {p, q, most};
    }

    @Holds(promise = 26, says = "IN THE LONG RUN: in a week one joins with a chance of p tenths, a house comes with q"
        + " tenths (1 .. 9 each);")
    static void chancesBounds(Check check) {
        ThreeOffers x = new ThreeOffers();
        mean(check, run(1, 1, 1), 1, 2);
        mean(check, run(9, 9, 1), 1, 2);
        mean(check, run(1, 9, 1), 1, 82);
        mean(check, run(9, 1, 1), 81, 82);
        for (int wrong : new int[] {0, 10, -1, GREATEST, LEAST}) {
            check.due("p " + wrong, x.mean(wrong, 5, 1, 0), OUTSIDE);
            check.due("q " + wrong, x.mean(5, wrong, 1, 0), OUTSIDE);
        }
    }

    @Holds(promise = 26, says = "a list is one longer if one joins and no house comes,")
    static void oneLonger(Check check) {
        // Longer by 3 * 6, shorter by 4 * 7 of 100 weeks.
        mean(check, run(3, 4, 1), 18, 18 + 28, 2);
        // Longer by 2 * 3, shorter by 7 * 8.
        mean(check, run(2, 7, 1), 6, 6 + 56, 2);
    }

    private static void mean(Check check, int[] asked, long above, long below, long divisor) {
        mean(check, asked, above / divisor, below / divisor);
    }

    @Holds(promise = 26, says = "one shorter if a house comes and none joins and it is not empty;")
    static void oneShorter(Check check) {
        // Longer by 2 * 6, shorter by 4 * 8 of 100 weeks: lengths 0, 1, 2 weigh 64, 24, 9.
        mean(check, run(2, 4, 2), 24 + 2 * 9, 64 + 24 + 9);
        // The other way round: 9, 24, 64.
        mean(check, run(4, 2, 2), 24 + 2 * 64, 9 + 24 + 64);
    }

    @Holds(promise = 26, says = "never longer than most (1 .. 6).")
    static void mostBounds(Check check) {
        ThreeOffers x = new ThreeOffers();
        for (int most = 1; most <= 5; most += 2) mean(check, run(5, 5, most), most, 2);
        for (int most = 2; most <= 6; most += 2) mean(check, run(5, 5, most), most / 2, 1);
        check.due("most 0", x.mean(5, 5, 0, 0), OUTSIDE);
        check.due("most 7", x.mean(5, 5, 7, 0), OUTSIDE);
        check.due("most -1", x.mean(5, 5, -1, 0), OUTSIDE);
        check.due("the greatest most", x.mean(5, 5, GREATEST, 0), OUTSIDE);
        check.due("the least most", x.mean(5, 5, LEAST, 0), OUTSIDE);
        // The greatest numbers there are: length k weighs 81 to the power k, in lowest terms already.
        long below = 0;
        long above = 0;
        long weight = 1;
        for (int length = 0; length <= 6; length++) {
            below += weight;
            above += length * weight;
            weight *= 81;
        }
        mean(check, run(9, 1, 6), above, below);
    }

    @Holds(promise = 26, says = "MEAN length IN THE LONG RUN.")
    static void meanLength(Check check) {
        mean(check, run(1, 9, 6), 3574498821L, 285959905687L);
        ThreeOffers x = listOf(0, 0, 0);
        check.due("whoever is on the list", x.mean(5, 5, 6, 0), 3);
    }

    @Holds(promise = 26, says = "OUTSIDE.")
    static void meanRefused(Check check) {
        ThreeOffers x = new ThreeOffers();
        check.due("part -1", x.mean(5, 5, 1, -1), OUTSIDE);
        check.due("part 2", x.mean(5, 5, 1, 2), OUTSIDE);
        check.due("p", x.mean(10, 5, 1, 1), OUTSIDE);
        check.due("q", x.mean(5, 10, 1, 1), OUTSIDE);
        check.due("most", x.mean(5, 5, 7, 1), OUTSIDE);
        check.due("all", x.mean(0, 0, 0, 2), OUTSIDE);
    }

    @Holds(promise = {21, 26}, says = "Parts are told in lowest terms: above (part 0), below (1).")
    static void lowestTerms(Check check) {
        mean(check, run(5, 5, 6), 3, 1);
        mean(check, run(5, 5, 2), 1, 1);
        mean(check, run(5, 5, 5), 5, 2);
        ThreeOffers x = listOf(0, 0, 0, 0);
        chance(check, x, lot(0, 0, 2, -1), 1, 2);
        chance(check, x, lot(0, 0, 3, -1), 3, 4);
        chance(check, x, lot(0, 0, 4, -1), 1, 1);
        chance(check, x, lot(0, 0, 4, 1), 0, 1);
    }
}
