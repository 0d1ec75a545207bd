import java.util.List;

/** Boundaries of what would be, of the best rule and of settings at rest; promises 17 to 20. */
final class AheadSentences {
    private static final int NONE = -1, OUTSIDE = -3;
    private static final int LEAST = Integer.MIN_VALUE, GREATEST = Integer.MAX_VALUE;

    private AheadSentences() {
    }

    private static void row(ThreeOffers x, int... kinds) {
        for (int kind : kinds) x.coming(kind);
    }

    private static void joiners(ThreeOffers x, int... sorts) {
        for (int sort : sorts) x.joining(sort);
    }

    private static void join(ThreeOffers x, int many, int sort) {
        for (int i = 0; i < many; i++) x.join(sort);
    }

    /** One of sort 0, whom no house is offered: each week costs one. */
    private static ThreeOffers waiting() {
        ThreeOffers x = new ThreeOffers();
        x.join(0);
        return x;
    }

    @Holds(promise = 18, says = "GAIN of a SORT in some WEEKS: the WORTH of houses to those of it that were HOUSED in"
        + " these, together, less what those of it COST in these.")
    static void gainOfSort(Check check) {
        ThreeOffers x = new ThreeOffers();
        x.worth(0, 0, 50);
        x.worth(1, 0, 70);
        x.need(0, 4);
        join(x, 3, 0);
        x.join(1);
        row(x, 0);
        check.due("one housed, two cost", x.gain(0, 1), 50 - 8);
        check.due("another sort only costs", x.gain(1, 1), -1);
        check.due("a sort that is not there", x.gain(2, 60), 0);
        x.run(1);
        check.due("who was housed before is not in these", x.gain(0, 1), 50 - 4);
        check.due("all of them", x.gain(0, 60), 100 - 4);
        check.due("the other sort", x.gain(1, 60), 70 - 2);
        ThreeOffers gone = Texts.ruled("noes 1;way 0 bar 1");
        gone.need(0, 9);
        gone.join(0);
        row(gone, 0);
        check.due("the gone cost till then", gone.gain(0, 60), -9);
    }

    @Holds(promise = 17, says = "WOULD: what comes in n WEEKS (1 .. 60) from now on, if all go on so")
    static void wouldBounds(Check check) {
        ThreeOffers x = waiting();
        check.due("n 1", x.would(1, 0), 1);
        check.due("n 60", x.would(60, 0), 60);
        check.due("n 0", x.would(0, 0), OUTSIDE);
        check.due("n 61", x.would(61, 0), OUTSIDE);
        check.due("the greatest n", x.would(GREATEST, 0), OUTSIDE);
        check.due("the least n", x.would(LEAST, 0), OUTSIDE);
        ThreeOffers later = Texts.ruled("way 0 fall 20 7;noes 3");
        later.worth(0, 0, 6);
        row(later, -1, 0, 0);
        later.join(0);
        later.run(1);
        check.due("from now on it is offered and says no", later.would(1, 1), 0);
        check.due("having waited twice it takes", later.would(2, 1), 1);
        later.run(1);
        check.due("from the next week on at once", later.would(1, 1), 1);
    }

    @Holds(promise = {17, 18, 19, 20}, says = "(WEEKS may pass 2000).")
    static void beyondLastWeek(Check check) {
        ThreeOffers x = new ThreeOffers();
        for (int i = 0; i < 20; i++) x.run(100);
        x.worth(0, 1, 10);
        join(x, 12, 0);
        // Week 2001 is the first that 3 divides.
        row(x, 1, -1, -1);
        check.due("no house in week 2000", x.would(1, 1), 0);
        check.due("one in week 2001", x.would(2, 1), 1);
        check.due("none more till 2003", x.would(4, 1), 1);
        check.due("the next in week 2004", x.would(5, 1), 2);
        check.due("the twelfth in week 2034", x.would(35, 1), 12);
        check.due("then they are empty", x.would(60, 2), 8);
        check.due("gain", x.gain(0, 5), 20 - 12 - 3 * 11 - 10);
        check.due("best", x.best(5, 1), 12 + 3 * 11 + 10);
        check.due("rest", x.rest(40, -1), 625);
        check.due("weeks", x.count(0), 2000);
        check.due("but none goes by", x.run(1), OUTSIDE);
    }

    @Holds(promise = {17, 18, 19, 20}, says = "(Nothing is changed.)")
    static void nothingChanged(Check check) {
        List<Integer> before = Looks.of(busy());
        ThreeOffers x = busy();
        x.would(60, 0);
        check.holds("by would", Looks.of(x).equals(before));
        x = busy();
        x.gain(1, 60);
        check.holds("by gain", Looks.of(x).equals(before));
        x = busy();
        x.best(60, 0);
        check.holds("by best", Looks.of(x).equals(before));
        x = busy();
        x.rest(40, -1);
        check.holds("by rest", Looks.of(x).equals(before));
    }

    /** A town in which all things happen within a few weeks, with a text begun. */
    private static ThreeOffers busy() {
        ThreeOffers x = Texts.ruled("order need;noes 1;then back;grow 3;way 0 bar 5;way 1 fall 40 9;way 2 bar 9");
        for (int sort = 0; sort <= 3; sort++) {
            for (int kind = 0; kind <= 3; kind++) x.worth(sort, kind, (sort * 7 + kind * 5) % 13);
            x.need(sort, 1 + sort * 2);
        }
        row(x, 0, 1, -1, 2, 3);
        joiners(x, 0, 1, 2, 3, -1, 0);
        join(x, 3, 0);
        join(x, 3, 2);
        x.holder(0, 1);
        x.holder(1, 0);
        x.run(9);
        Texts.put(x, "noes 3;order");
        return x;
    }

    @Holds(promise = 17, says = "WOULD: of all SORTS in n WEEKS: COST (what 0), HOUSED (1), EMPTY (2), GONE (3), AWAY"
        + " (4).")
    static void wouldOfAllSorts(Check check) {
        ThreeOffers x = Texts.ruled("noes 1;way 0 bar 1;way 1 bar 1");
        x.worth(2, 0, 1);
        x.need(0, 2);
        x.need(1, 3);
        join(x, 6, 0);
        join(x, 4, 1);
        join(x, 1, 2);
        joiners(x, 3);
        row(x, -1, -1, 0, 0, 0, 0, 0, 0);
        // Of weeks 1 to 5: one is away; sort 2 is housed; ten are gone and one of sort 3 is housed; two more are.
        x.run(1);
        int[][] due = {{26, 0, 0, 0, 1}, {26 + 26, 1, 0, 0, 1}, {26 + 26 + 2, 2, 0, 10, 1}, {56, 3, 0, 10, 1},
            {58, 4, 0, 10, 1}};
        for (int n = 1; n <= 5; n++) {
            for (int what = 0; what <= 4; what++) check.due(n + " weeks: " + what, x.would(n, what), due[n - 1][what]);
        }
        ThreeOffers nobody = new ThreeOffers();
        row(nobody, 0);
        int[] none = {0, 0, 60, 0, 0};
        for (int what = 0; what <= 4; what++) check.due("nobody: " + what, nobody.would(60, what), none[what]);
    }

    @Holds(promise = 17, says = "OUTSIDE.")
    static void wouldRefused(Check check) {
        ThreeOffers x = waiting();
        check.due("what -1", x.would(1, -1), OUTSIDE);
        check.due("what 5", x.would(1, 5), OUTSIDE);
        check.due("the greatest what", x.would(60, GREATEST), OUTSIDE);
        check.due("the least what", x.would(60, LEAST), OUTSIDE);
        check.due("n 0", x.would(0, 4), OUTSIDE);
        check.due("n 61", x.would(61, 4), OUTSIDE);
        check.due("both wrong", x.would(0, 5), OUTSIDE);
    }

    @Holds(promise = 18, says = "GAIN that a SORT would have in n WEEKS (1 .. 60).")
    static void gainBounds(Check check) {
        ThreeOffers x = waiting();
        check.due("n 1", x.gain(0, 1), -1);
        check.due("n 60", x.gain(0, 60), -60);
        check.due("n 0", x.gain(0, 0), LEAST);
        check.due("n 61", x.gain(0, 61), LEAST);
        ThreeOffers full = new ThreeOffers();
        full.need(3, 9);
        join(full, 12, 3);
        check.due("the least there is", full.gain(3, 60), -12 * 9 * 60);
    }

    @Holds(promise = 18, says = "The least int: UNKNOWN, OUTSIDE.")
    static void gainRefused(Check check) {
        ThreeOffers x = waiting();
        check.due("sort -1", x.gain(-1, 1), LEAST);
        check.due("sort 4", x.gain(4, 1), LEAST);
        check.due("the greatest n", x.gain(0, GREATEST), LEAST);
        check.due("the least n", x.gain(0, LEAST), LEAST);
        check.due("n -1", x.gain(0, -1), LEAST);
        check.due("both wrong", x.gain(4, 61), LEAST);
    }

    @Holds(promise = 19, says = "BEST RULE: of all orders (0 time, 1 need, 2 points),")
    static void bestOrder(Check check) {
        ThreeOffers x = new ThreeOffers();
        x.need(1, 9);
        x.join(0);
        x.join(1);
        row(x, 0);
        check.due("by need the needy one is first", x.best(1, 0), 12);
        check.due("the other one costs", x.best(1, 1), 1);
        x.need(1, 1);
        x.need(0, 9);
        check.due("by time it is first already", x.best(1, 0), 0);
        check.due("the other one costs", x.best(1, 1), 1);
    }

    /** Twelve of sort 0 take no house, and as long as they are there, the needy that join till week 19 are away. */
    private static ThreeOffers blocked(int... weeksOfHouses) {
        ThreeOffers x = Texts.ruled("way 0 bar 1");
        x.need(1, 9);
        join(x, 12, 0);
        int[] kinds = new int[24];
        for (int week = 0; week < 24; week++) kinds[week] = NONE;
        for (int week : weeksOfHouses) kinds[week] = 0;
        row(x, kinds);
        for (int week = 0; week < 24; week++) x.joining(week < 20 ? 1 : NONE);
        return x;
    }

    @Holds(promise = 19, says = "noes (0 .. 3)")
    static void bestNoes(Check check) {
        // They go by the house of week 20, so that nobody costs then: their first, second, third or fourth no.
        check.due("0", blocked(20).best(24, 0), 0);
        check.due("what 0 cost", blocked(20).best(24, 1), 240);
        check.due("1", blocked(2, 20).best(24, 0), 3);
        check.due("2", blocked(1, 2, 20).best(24, 0), 6);
        check.due("3", blocked(0, 1, 2, 20).best(24, 0), 9);
        check.due("what 3 cost", blocked(0, 1, 2, 20).best(24, 1), 240);
        // By their fifth no they would go too, but noes of 4 are none of these: they had better be there all along.
        check.due("4 is not tried", blocked(0, 1, 2, 3, 20).best(24, 0), 1);
        check.due("what that costs", blocked(0, 1, 2, 3, 20).best(24, 1), 288);
    }

    @Holds(promise = 19, says = "and ends (0 end, 1 back, 2 stay),")
    static void bestEnd(Check check) {
        ThreeOffers end = Texts.ruled("way 0 bar 1;then stay");
        end.join(0);
        row(end, 0);
        check.due("end", end.best(1, 0), 0);
        check.due("it costs nothing", end.best(1, 1), 0);
        // Five that take nothing but kind 0 go behind the needy, who take that house in week 2, and keep one more away.
        ThreeOffers back = Texts.ruled("way 1 bar 1");
        back.need(0, 9);
        back.worth(1, 0, 1);
        join(back, 5, 1);
        join(back, 7, 0);
        row(back, 1, -1, 0);
        joiners(back, 1, 0, -1);
        check.due("back", back.best(3, 0), 1);
        check.due("it costs", back.best(3, 1), 60 + 60 + 51);
        // The needy one that takes nothing but kind 1 stays first for the house of week 1, and keeps a needy one away.
        ThreeOffers stay = Texts.ruled("way 1 bar 1");
        stay.need(1, 9);
        stay.worth(1, 1, 1);
        join(stay, 1, 1);
        join(stay, 11, 0);
        row(stay, 0, 1, 1, -1, -1);
        joiners(stay, 0, 0, 1, 1, -1);
        check.due("stay", stay.best(5, 0), 2);
        check.due("it costs", stay.best(5, 1), 20 + 12 + 20 + 20 + 20);
    }

    @Holds(promise = 19, says = "all else as told,")
    static void bestAllElse(Check check) {
        ThreeOffers x = new ThreeOffers();
        x.join(0);
        row(x, 0);
        check.due("it takes the house", x.best(1, 1), 0);
        Texts.put(x, "way 0 bar 1;grow 0;noes 9;then stay;order points");
        x.rules();
        check.due("by the way told it does not, and one no ends it", x.best(1, 0), 0);
        x.joining(1);
        check.due("joiners are as told", x.best(2, 1), 1 + 1);
        int[] rules = {2, 9, 2, 0};
        for (int what = 0; what <= 3; what++) check.due("rule " + what + " stays", x.rule(what), rules[what]);
        check.due("the way stays", x.way(0, 0), 1);
        // The first does not take the house and is gone, the second takes it; by any other way one of them would cost.
        ThreeOffers proud = Texts.ruled("way 0 bar 12");
        proud.worth(0, 0, 10);
        proud.join(0);
        proud.join(1);
        row(proud, 0);
        check.due("nobody costs", proud.best(1, 1), 0);
        Texts.put(proud, "way 0 any");
        proud.fault();
        check.due("a text that was only read is not told", proud.best(1, 1), 0);
        proud.rest(1, -1);
        check.due("nor is a setting", proud.best(1, 1), 0);
    }

    /** One of sort 0; a house worth 10 comes in week 0 and one worth 12 in week 1. */
    private static ThreeOffers waitsForKind1(String rules) {
        ThreeOffers x = Texts.ruled(rules);
        x.worth(0, 0, 10);
        x.worth(0, 1, 12);
        x.join(0);
        row(x, 0, 1);
        return x;
    }

    @Holds(promise = 19, says = "that by which n WEEKS COST least;")
    static void bestCost(Check check) {
        ThreeOffers x = new ThreeOffers();
        check.due("nobody costs", x.best(60, 1), 0);
        x.need(0, 9);
        join(x, 12, 0);
        check.due("nobody can be housed", x.best(60, 1), 12 * 9 * 60);
        ThreeOffers later = blocked(0, 20);
        check.due("in 20 weeks they had better stay", later.best(20, 1), 240);
        check.due("in one week they had better go", later.best(1, 1), 9);
        check.due("by their first no", later.best(1, 0), 0);
    }

    @Holds(promise = 19, says = "of several the least 12 times the order, 3 times the noes and the end.")
    static void bestOfSeveral(Check check) {
        check.due("all alike", new ThreeOffers().best(60, 0), 0);
        check.due("all alike with one waiting", waiting().best(60, 0), 0);
        ThreeOffers told = Texts.ruled("order points;noes 3;then stay");
        check.due("those told are not better", told.best(1, 0), 0);
        // In 20 weeks back and stay are alike by all noes and orders, and so is end by noes of 2 and 3.
        check.due("back of no noes", blocked(0, 1).best(20, 0), 1);
        ThreeOffers x = new ThreeOffers();
        x.need(1, 9);
        x.join(0);
        x.join(1);
        row(x, 0);
        check.due("by need, the least noes and end", x.best(1, 0), 12);
    }

    @Holds(promise = 19, says = "BEST RULE for n WEEKS (1 .. 60): its number (what 0), the COST (1).")
    static void bestBounds(Check check) {
        ThreeOffers x = waiting();
        check.due("n 1", x.best(1, 1), 1);
        check.due("n 60", x.best(60, 1), 60);
        check.due("its number", x.best(60, 0), 0);
        check.due("n 0", x.best(0, 1), OUTSIDE);
        check.due("n 61", x.best(61, 1), OUTSIDE);
    }

    @Holds(promise = 19, says = "OUTSIDE.")
    static void bestRefused(Check check) {
        ThreeOffers x = waiting();
        check.due("what -1", x.best(1, -1), OUTSIDE);
        check.due("what 2", x.best(1, 2), OUTSIDE);
        check.due("the greatest what", x.best(1, GREATEST), OUTSIDE);
        check.due("the least what", x.best(1, LEAST), OUTSIDE);
        check.due("the greatest n", x.best(GREATEST, 0), OUTSIDE);
        check.due("the least n", x.best(LEAST, 0), OUTSIDE);
        check.due("n 0", x.best(0, 0), OUTSIDE);
        check.due("n 61", x.best(61, 0), OUTSIDE);
    }

    @Holds(promise = 20, says = "BARS of a SORT are 0 (any) and 1 .. 4: bar at the WORTH of KIND 0 .. 3.")
    static void bars(Check check) {
        // Houses get better by ten a week and a week costs one, so that the best of those that come is waited for.
        for (int kinds = 2; kinds <= 4; kinds++) {
            ThreeOffers x = Texts.ruled("noes 9");
            for (int kind = 0; kind < kinds; kind++) {
                x.worth(0, kind, 10 * kind + 10);
                x.coming(kind);
            }
            x.join(0);
            check.due("one bar of five", x.rest(kinds, -1), 125);
            check.due("at the kind " + (kinds - 1), x.rest(kinds, 0), kinds);
        }
        ThreeOffers any = Texts.ruled("noes 9;way 0 bar 99");
        for (int kind = 0; kind <= 3; kind++) any.worth(0, kind, 10 * kind + 10);
        any.join(0);
        row(any, 0);
        check.due("any, or the bar at kind 0, but not the way told", any.rest(4, -1), 2 * 125);
        check.due("any", any.rest(4, 0), 0);
        check.due("the bar at kind 0", any.rest(4, 1), 1);
    }

    @Holds(promise = 20, says = "A SETTING tells one for each SORT (the number: 625 of them, SORT 0 the lowest figure,"
        + " base 5).")
    static void settings(Check check) {
        ThreeOffers all = new ThreeOffers();
        check.due("all", all.rest(1, -1), 625);
        check.due("the first", all.rest(1, 0), 0);
        check.due("the last", all.rest(1, 624), 624);
        check.due("behind the last", all.rest(1, 625), NONE);
        // Each sort waits for the kind of its own number, and lets others go by though it could have them.
        ThreeOffers one = Texts.ruled("order need;noes 9");
        for (int sort = 0; sort <= 3; sort++) {
            for (int kind = 0; kind <= 3; kind++) one.worth(sort, kind, sort == kind ? 50 : 1);
        }
        one.need(3, 9);
        for (int sort = 0; sort <= 2; sort++) one.join(sort);
        row(one, 3, 2, 1, 0, 3);
        joiners(one, 3, -1, -1, -1, -1);
        check.due("only one", one.rest(5, -1), 1);
        check.due("which", one.rest(5, 0), 1 + 5 * 2 + 25 * 3 + 125 * 4);
        check.due("no second", one.rest(5, 1), NONE);
    }

    /** One of sort 0 joins in week 20; a bad house comes in week 23, a good one in week 39. */
    private static ThreeOffers goodHouseInWeek39() {
        ThreeOffers x = new ThreeOffers();
        x.worth(0, 0, 1);
        x.worth(0, 1, 50);
        for (int i = 0; i < 23; i++) x.coming(i == 0 ? 0 : i == 16 ? 1 : NONE);
        for (int i = 0; i < 24; i++) x.joining(i == 20 ? 0 : NONE);
        return x;
    }

    @Holds(promise = 20, says = "At REST is a SETTING by which, in n WEEKS (1 .. 40) from now on,")
    static void restBounds(Check check) {
        ThreeOffers x = goodHouseInWeek39();
        check.due("39 weeks end too soon: all bars but one take the bad house", x.rest(39, -1), 500);
        check.due("40 weeks", x.rest(40, -1), 125);
        check.due("the bar at kind 1", x.rest(40, 0), 2);
        check.due("n 0", x.rest(0, -1), OUTSIDE);
        check.due("n 41", x.rest(41, -1), OUTSIDE);
        check.due("n 1", x.rest(1, -1), 625);
        x.run(1);
        check.due("from now on 39 are enough", x.rest(39, -1), 125);
        check.due("38 are not", x.rest(38, -1), 500);
    }

    @Holds(promise = 20, says = "At REST is a SETTING by which, in n WEEKS (1 .. 40) from now on,")
    static void restAfterChange(Check check) {
        ThreeOffers x = waitsForKind1("noes 2");
        check.due("it waits", x.rest(2, -1), 125);
        x.need(0, 3);
        check.due("that costs too much", x.rest(2, -1), 500);
        x.need(0, 1);
        check.due("it waits again", x.rest(2, -1), 125);
        x.worth(0, 1, 10);
        check.due("there is nothing to wait for", x.rest(2, -1), 625);
        x.worth(0, 1, 12);
        check.due("there is again", x.rest(2, -1), 125);
        x.join(0);
        check.due("two can have both houses", x.rest(2, -1), 500);
        x = waitsForKind1("noes 2");
        check.due("it waits", x.rest(2, -1), 125);
        x.joining(0);
        check.due("so can one that joins", x.rest(2, -1), 500);
        x = waitsForKind1("noes 2");
        check.due("it waits", x.rest(2, -1), 125);
        x.run(1);
        check.due("by the rules it did not", x.rest(2, -1), 625);
        x = new ThreeOffers();
        x.worth(0, 0, 10);
        x.worth(0, 1, 12);
        x.join(0);
        x.coming(0);
        check.due("in one week", x.rest(1, -1), 500);
        check.due("no better house comes", x.rest(2, -1), 500);
        x.coming(1);
        check.due("one comes", x.rest(2, -1), 125);
        x.worth(0, 0, 12);
        check.due("in one week both are as good", x.rest(1, -1), 625);
    }

    @Holds(promise = 20, says = "At REST is a SETTING by which, in n WEEKS (1 .. 40) from now on,")
    static void restByRulesTold(Check check) {
        ThreeOffers x = waitsForKind1("noes 2");
        check.due("it waits", x.rest(2, -1), 125);
        Texts.put(x, "noes 0");
        x.rules();
        check.due("who waits is gone", x.rest(2, -1), 500);
        x.best(2, 0);
        x.need(0, 1);
        check.due("rules that were tried are not told", x.rest(2, -1), 500);
        Texts.put(x, "noes 9");
        x.fault();
        x.need(0, 1);
        check.due("nor is a text that was only read", x.rest(2, -1), 500);
    }

    @Holds(promise = 20, says = "no SORT would have a greater GAIN by another of its BARS, the others being as they are.")
    static void noGreaterGain(Check check) {
        // The good house is worth as much more as a week costs: to wait is as good as to take.
        ThreeOffers alike = new ThreeOffers();
        alike.worth(0, 0, 10);
        alike.worth(0, 1, 11);
        alike.join(0);
        row(alike, 0, 1);
        check.due("as great is not greater", alike.rest(2, -1), 625);
        alike.worth(0, 1, 12);
        check.due("greater by one", alike.rest(2, -1), 125);
        check.due("by the bar at kind 1", alike.rest(2, 0), 2);
        alike.worth(0, 1, 10);
        check.due("less by one: all bars take the first house", alike.rest(2, -1), 625);
        // Of two that wait for one good house the second gets it only if the first takes the bad one.
        ThreeOffers two = Texts.ruled("noes 9");
        for (int sort = 0; sort <= 1; sort++) {
            two.worth(sort, 0, 10);
            two.worth(sort, 1, 30);
        }
        two.join(0);
        two.join(1);
        row(two, 0, 1);
        // The first waits for the good house; the second takes the bad one, whatever it does otherwise being less.
        check.due("the first waits, the second does not", two.rest(2, -1), 4 * 25);
        check.due("which is first", two.rest(2, 0), 2);
    }

    @Holds(promise = 20, says = "SETTINGS at REST for n WEEKS: how many (i -1), or the i-th (by numbers);")
    static void restByNumbers(Check check) {
        ThreeOffers x = goodHouseInWeek39();
        check.due("how many", x.rest(40, -1), 125);
        for (int i = 0; i < 125; i += 31) check.due("number " + i, x.rest(40, i), 5 * i + 2);
        check.due("the last", x.rest(40, 124), 622);
        check.due("how many for other weeks", x.rest(39, -1), 500);
        check.due("and for the first again", x.rest(40, -1), 125);
    }

    @Holds(promise = 20, says = "NONE: there are not so many.")
    static void restNotSoMany(Check check) {
        ThreeOffers x = goodHouseInWeek39();
        check.due("the last", x.rest(40, 124), 622);
        check.due("behind it", x.rest(40, 125), NONE);
        check.due("by far", x.rest(40, GREATEST), NONE);
        check.due("behind all settings", new ThreeOffers().rest(1, 625), NONE);
    }

    @Holds(promise = 20, says = "OUTSIDE: n, i below -1.")
    static void restRefused(Check check) {
        ThreeOffers x = new ThreeOffers();
        check.due("i -2", x.rest(1, -2), OUTSIDE);
        check.due("the least i", x.rest(1, LEAST), OUTSIDE);
        check.due("n 0", x.rest(0, 0), OUTSIDE);
        check.due("n 41", x.rest(41, 0), OUTSIDE);
        check.due("n -1", x.rest(-1, 0), OUTSIDE);
        check.due("the greatest n", x.rest(GREATEST, 0), OUTSIDE);
        check.due("the least n", x.rest(LEAST, 0), OUTSIDE);
        check.due("n 41, and not so many", x.rest(41, 700), OUTSIDE);
    }
}
