/** Boundaries of the order, of what is taken and of what a week does; promise 7. */
final class WeekSentences {
    private static final int NONE = -1, UNKNOWN = -2, OUTSIDE = -3;

    private WeekSentences() {
    }

    @Holds(promise = 7, says = "WEEKS are counted (0 at first, 2000 at most).")
    static void weeksBounds(Check check) {
        ThreeOffers x = new ThreeOffers();
        check.due("at first", x.count(0), 0);
        for (int i = 1; i <= 19; i++) x.run(100);
        check.due("to 1999", x.run(99), 1999);
        check.due("two more", x.run(2), OUTSIDE);
        check.due("one more", x.run(1), 2000);
        check.due("yet one more", x.run(1), OUTSIDE);
        check.due("weeks", x.count(0), 2000);
    }

    @Holds(promise = 7, says = "n WEEKS (1 .. 100) go by: WEEKS.")
    static void weeksAtOnce(Check check) {
        ThreeOffers x = new ThreeOffers();
        x.join(0);
        check.due("n 0", x.run(0), OUTSIDE);
        check.due("n -1", x.run(-1), OUTSIDE);
        check.due("n 101", x.run(101), OUTSIDE);
        check.due("the greatest n", x.run(Integer.MAX_VALUE), OUTSIDE);
        check.due("the least n", x.run(Integer.MIN_VALUE), OUTSIDE);
        check.due("nothing waited", x.person(0, 4), 0);
        check.due("n 1", x.run(1), 1);
        check.due("one waited", x.person(0, 4), 1);
        check.due("n 100", x.run(100), 101);
        check.due("each of them waited", x.person(0, 4), 101);
    }

    @Holds(promise = 7, says = "OUTSIDE: also beyond 2000.")
    static void beyondLastWeek(Check check) {
        ThreeOffers x = new ThreeOffers();
        x.join(0);
        x.run(50);
        for (int i = 1; i <= 19; i++) x.run(100);
        check.due("51 from 1950 on", x.run(51), OUTSIDE);
        check.due("100 from 1950 on", x.run(100), OUTSIDE);
        check.due("no week of them went by", x.person(0, 4), 1950);
        check.due("the greatest n", x.run(Integer.MAX_VALUE), OUTSIDE);
        check.due("50 from 1950 on", x.run(50), 2000);
        check.due("n 0 from 2000 on", x.run(0), OUTSIDE);
        check.due("n -1 from 2000 on", x.run(-1), OUTSIDE);
    }

    @Holds(promise = 8, says = "ORDER of PERSONS: the least NUMBER first;")
    static void orderByTime(Check check) {
        ThreeOffers x = new ThreeOffers();
        x.need(3, 9);
        for (int i = 0; i < 12; i++) x.join(i % 4);
        order(check, x, 0, 1, 2, 3, 4, 5, 6, 7, 8, 9, 10, 11);
        Texts.put(x, "noes 0;then back;way 0 bar 1");
        x.rules();
        x.coming(0);
        x.run(1);
        order(check, x, 2, 3, 4, 5, 6, 7, 8, 9, 10, 11, 12);
    }

    private static void order(Check check, ThreeOffers x, int... numbers) {
        for (int place = 0; place < numbers.length; place++) {
            check.due("number at place " + place, x.person(place, 1), numbers[place]);
        }
        check.due("behind them", x.person(numbers.length, 1), UNKNOWN);
    }

    @Holds(promise = 8, says = "by need: the greatest NEED of their SORT first, then likewise;")
    static void orderByNeed(Check check) {
        ThreeOffers x = Texts.ruled("order need");
        for (int i = 0; i < 8; i++) x.join(i % 4);
        order(check, x, 0, 1, 2, 3, 4, 5, 6, 7);
        x.need(3, 9);
        x.need(1, 8);
        x.need(2, 8);
        order(check, x, 3, 7, 1, 2, 5, 6, 0, 4);
        x.need(0, 9);
        order(check, x, 0, 3, 4, 7, 1, 2, 5, 6);
        x.coming(0);
        x.run(2);
        order(check, x, 4, 7, 1, 2, 5, 6);
    }

    @Holds(promise = 8, says = "by points: the most POINTS first, then likewise.")
    static void orderByPoints(Check check) {
        ThreeOffers x = Texts.ruled("order points;noes 0;then back;way 0 bar 1;grow 0");
        x.need(3, 9);
        x.join(0);
        x.join(1);
        x.join(3);
        x.run(3);
        order(check, x, 0, 1, 2);
        Texts.put(x, "order points;noes 0;then back;way 0 bar 1;grow 9");
        x.rules();
        x.run(100);
        x.join(2);
        order(check, x, 0, 1, 2, 3);
        x.coming(0);
        x.run(1);
        order(check, x, 2, 3, 4);
        check.due("the most", x.person(0, 2), 99);
        check.due("as many", x.person(1, 2), 9);
        check.due("as many", x.person(2, 2), 9);
    }

    /** One of sort 0 on the list, to whom houses of a worth are offered each week. */
    private static ThreeOffers offered(String rules, int worth) {
        ThreeOffers x = Texts.ruled(rules);
        x.worth(0, 0, worth);
        x.join(0);
        x.coming(0);
        return x;
    }

    /** How long the one waits till it is housed, or NONE. */
    private static int waits(String rules, int worth) {
        ThreeOffers x = offered(rules, worth);
        x.run(100);
        return x.of(0, 0) == 0 ? NONE : x.of(0, 1);
    }

    @Holds(promise = 7, says = "A PERSON TAKES a KIND: any: always;")
    static void takesAny(Check check) {
        check.due("worth 0", waits("way 0 any", 0), 0);
        check.due("worth 99", waits("way 0 any", 99), 0);
        check.due("a bar of another sort", waits("way 1 bar 99;way 0 any", 0), 0);
    }

    @Holds(promise = 7, says = "bar: if its WORTH to the SORT is V at least;")
    static void takesAtBar(Check check) {
        check.due("one less than V", waits("way 0 bar 50;then stay", 49), NONE);
        check.due("V", waits("way 0 bar 50;then stay", 50), 0);
        check.due("one more", waits("way 0 bar 50;then stay", 51), 0);
        check.due("0 at bar 0", waits("way 0 bar 0;then stay", 0), 0);
        check.due("0 at bar 1", waits("way 0 bar 1;then stay", 0), NONE);
        check.due("98 at bar 99", waits("way 0 bar 99;then stay", 98), NONE);
        check.due("99 at bar 99", waits("way 0 bar 99;then stay", 99), 0);
        ThreeOffers x = offered("way 0 bar 50;way 1 bar 50", 50);
        x.worth(1, 0, 49);
        check.due("to another sort it is less", x.run(1), 1);
        x.join(1);
        x.run(1);
        check.due("sort 0", x.of(0, 0), 1);
        check.due("sort 1", x.of(1, 0), 0);
    }

    @Holds(promise = 7, says = "fall: V less N times what it WAITED at least.")
    static void takesAtFallingBar(Check check) {
        String rules = "way 0 fall 20 7;then stay";
        check.due("20 at once", waits(rules, 20), 0);
        check.due("19 at 13", waits(rules, 19), 1);
        check.due("13 at 13", waits(rules, 13), 1);
        check.due("12 at 6", waits(rules, 12), 2);
        check.due("6 at 6", waits(rules, 6), 2);
        check.due("5 at -1", waits(rules, 5), 3);
        check.due("0 at -1", waits(rules, 0), 3);
        check.due("0 at 0", waits("way 0 fall 20 5;then stay", 0), 4);
        check.due("it falls by nothing", waits("way 0 fall 20 0;then stay", 19), NONE);
        check.due("from 0 on", waits("way 0 fall 0 0;then stay", 0), 0);
        check.due("99 by 1", waits("way 0 fall 99 1;then stay", 0), 99);
        check.due("99 by 9", waits("way 0 fall 99 9;then stay", 0), 11);
        check.due("going back, it waited all the same", waits("way 0 fall 20 5;noes 0;then back", 0), 4);
    }

    @Holds(promise = 7, says = "A WEEK: the house of it (COMING number WEEKS modulo how many there are; none without)")
    static void houseOfWeek(Check check) {
        ThreeOffers x = new ThreeOffers();
        for (int kind = 0; kind <= 3; kind++) x.worth(0, kind, 1 + kind);
        for (int i = 0; i < 12; i++) x.join(0);
        x.run(3);
        check.due("without a row: none", x.of(0, 0), 0);
        check.due("and none is empty", x.empty(), 0);
        x.coming(2);
        x.coming(-1);
        int[] got = {0, 3, 3, 6};
        for (int got0 : got) {
            x.run(1);
            check.due("a row of two, in week " + x.count(0), x.of(0, 2), got0);
        }
        x.coming(0);
        // Week 7 is number 1 of three, week 8 number 2, week 9 number 0.
        int[] more = {6, 7, 10};
        for (int got1 : more) {
            x.run(1);
            check.due("a row of three, in week " + x.count(0), x.of(0, 2), got1);
        }
        ThreeOffers whole = new ThreeOffers();
        for (int i = 0; i < 24; i++) whole.coming(i == 23 ? 3 : -1);
        whole.run(23);
        check.due("23 weeks without", whole.empty(), 0);
        whole.run(1);
        check.due("the last of the row", whole.empty(), 1);
        whole.run(23);
        check.due("begun again", whole.empty(), 1);
        whole.run(1);
        check.due("the last again", whole.empty(), 2);
    }

    @Holds(promise = 7, says = "is offered to PERSONS in ORDER, as they stand when the WEEK begins, till one TAKES it.")
    static void offeredInOrder(Check check) {
        ThreeOffers x = Texts.ruled("order need;way 0 bar 1;noes 9");
        x.need(0, 9);
        x.join(1);
        x.join(0);
        x.join(2);
        x.coming(0);
        x.run(1);
        check.due("the neediest says no", x.person(0, 3), 1);
        check.due("the next takes it", x.of(1, 0), 1);
        check.due("nobody behind is asked", x.person(1, 3), 0);
        check.due("nor housed", x.of(2, 0), 0);
        ThreeOffers back = offered("noes 0;then back;way 0 bar 1", 0);
        back.run(1);
        check.due("who goes back is not asked again", back.count(6), 2);
        check.due("it has gone back once", back.person(0, 1), 1);
        ThreeOffers joins = new ThreeOffers();
        joins.coming(0);
        joins.joining(0);
        joins.run(1);
        check.due("who joins in this week is not asked", joins.of(0, 0), 0);
        check.due("it is asked in the next", joins.run(1), 2);
        check.due("and takes", joins.of(0, 0), 1);
    }

    @Holds(promise = 7, says = "This one is HOUSED, and is on THE LIST no more.")
    static void housed(Check check) {
        ThreeOffers x = offered("way 1 bar 1", 7);
        x.run(1);
        check.due("housed", x.of(0, 0), 1);
        check.due("the list is empty", x.count(1), 0);
        check.due("nobody is on it", x.person(0, 0), UNKNOWN);
        for (int i = 0; i < 12; i++) x.join(i == 11 ? 0 : 1);
        x.run(1);
        check.due("the last of twelve", x.of(0, 0), 2);
        check.due("eleven are left", x.count(1), 11);
        check.due("behind them", x.person(11, 0), UNKNOWN);
    }

    @Holds(promise = 7, says = "Each that does not has one NO more;")
    static void oneNoMore(Check check) {
        ThreeOffers x = Texts.ruled("noes 9;way 0 bar 1");
        x.coming(0);
        x.coming(-1);
        x.join(0);
        x.join(0);
        x.join(1);
        x.join(0);
        int[] first = {1, 1, 2, 2};
        int[] last = {0, 0, 1, 1};
        for (int week = 0; week < 4; week++) {
            x.run(1);
            check.due("noes of the first after week " + week, x.person(0, 3), first[week]);
            check.due("noes of the next after week " + week, x.person(1, 3), first[week]);
            check.due("noes of the last after week " + week, x.person(2, 3), last[week]);
        }
    }

    @Holds(promise = 7, says = "if these are more than noes:")
    static void moreThanNoes(Check check) {
        for (int noes : new int[] {0, 1, 2, 9}) {
            ThreeOffers x = offered("noes " + noes + ";way 0 bar 1", 0);
            if (noes > 0) x.run(noes);
            check.due("as many as " + noes, x.count(1), 1);
            check.due("none is gone", x.of(0, 3), 0);
            x.run(1);
            check.due("more than " + noes, x.count(1), 0);
            check.due("one is gone", x.of(0, 3), 1);
        }
        ThreeOffers fewer = offered("noes 9;way 0 bar 1", 0);
        fewer.run(5);
        Texts.put(fewer, "noes 1;way 0 bar 1");
        fewer.rules();
        check.due("the rules alone send nobody away", fewer.count(1), 1);
        fewer.run(1);
        check.due("six are more than one", fewer.of(0, 3), 1);
    }

    @Holds(promise = 7, says = "end: it is GONE, on THE LIST no more;")
    static void gone(Check check) {
        ThreeOffers x = Texts.ruled("noes 0;then end;way 0 bar 1");
        for (int i = 0; i < 12; i++) x.join(0);
        x.coming(0);
        x.run(1);
        check.due("all twelve are gone", x.of(0, 3), 12);
        check.due("the list is empty", x.count(1), 0);
        check.due("the house too", x.empty(), 1);
        check.due("none of them cost", x.of(0, 5), 0);
        x.run(1);
        check.due("nobody is gone twice", x.of(0, 3), 12);
    }

    @Holds(promise = 7, says = "back: it has the next NUMBER, no POINTS and no NOES;")
    static void back(Check check) {
        ThreeOffers x = Texts.ruled("noes 1;then back;way 0 bar 1;grow 4");
        x.join(0);
        x.join(0);
        x.join(1);
        x.join(1);
        x.coming(0);
        x.run(1);
        check.due("a first no is not more than one", x.person(0, 1), 0);
        check.due("points", x.person(0, 2), 4);
        x.run(1);
        order(check, x, 4, 5);
        for (int place = 0; place <= 1; place++) {
            check.due("only the points of this week", x.person(place, 2), 4);
            check.due("no noes", x.person(place, 3), 0);
            check.due("it waited on", x.person(place, 4), 2);
        }
        check.due("the next number", x.count(6), 6);
        check.due("nobody is gone", x.of(0, 3), 0);
        ThreeOffers full = Texts.ruled("noes 0;then back;way 0 bar 1");
        for (int i = 0; i < 12; i++) full.join(0);
        full.coming(0);
        full.joining(1);
        full.run(1);
        order(check, full, 12, 13, 14, 15, 16, 17, 18, 19, 20, 21, 22, 23);
        check.due("who went back still fills the list", full.of(1, 4), 1);
    }

    @Holds(promise = 7, says = "stay: nothing.")
    static void stays(Check check) {
        ThreeOffers x = offered("noes 0;then stay;way 0 bar 1", 0);
        x.join(1);
        x.run(3);
        check.due("its number", x.person(0, 1), 0);
        check.due("its points", x.person(0, 2), 3);
        check.due("its noes", x.person(0, 3), 3);
        check.due("what it waited", x.person(0, 4), 3);
        check.due("it is not gone", x.of(0, 3), 0);
        check.due("the house goes on to the next", x.of(1, 0), 1);
        check.due("no number taken", x.count(6), 2);
    }

    @Holds(promise = 10, says = "If none TAKES the house, it is EMPTY.")
    static void emptyHouse(Check check) {
        ThreeOffers x = Texts.ruled("noes 1;way 0 bar 1");
        x.run(1);
        check.due("no house, none empty", x.empty(), 0);
        x.coming(0);
        x.run(1);
        check.due("nobody on the list", x.empty(), 1);
        x.join(0);
        x.run(1);
        check.due("nobody takes it", x.empty(), 2);
        x.run(1);
        check.due("the last one is gone by it", x.empty(), 3);
        check.due("gone", x.of(0, 3), 1);
        x.join(0);
        x.join(1);
        x.run(1);
        check.due("the last one takes it", x.empty(), 3);
    }

    @Holds(promise = 7, says = "Then, of JOINING likewise, a PERSON joins with the next NUMBER,")
    static void joinsInWeek(Check check) {
        ThreeOffers x = new ThreeOffers();
        x.run(1);
        check.due("without a row: nobody", x.count(1), 0);
        x.joining(2);
        x.joining(-1);
        x.joining(3);
        // Week 1 is number 1 of three, week 2 number 2, week 3 number 0.
        int[] many = {0, 1, 2, 2, 3};
        for (int persons : many) {
            x.run(1);
            check.due("after week " + x.count(0), x.count(1), persons);
        }
        order(check, x, 0, 1, 2);
        int[] sorts = {3, 2, 3};
        for (int place = 0; place <= 2; place++) check.due("sort at " + place, x.person(place, 0), sorts[place]);
        ThreeOffers whole = new ThreeOffers();
        for (int i = 0; i < 24; i++) whole.joining(i == 23 ? 3 : -1);
        whole.run(23);
        check.due("23 weeks without", whole.count(1), 0);
        whole.run(1);
        check.due("the last of the row", whole.count(1), 1);
        whole.run(23);
        check.due("begun again", whole.count(1), 1);
        whole.run(1);
        check.due("the last again", whole.count(1), 2);
    }

    @Holds(promise = 9, says = "or, if there are 12, is turned AWAY.")
    static void away(Check check) {
        ThreeOffers x = new ThreeOffers();
        for (int i = 0; i < 11; i++) x.join(0);
        x.joining(2);
        x.run(1);
        check.due("with 11 it joins", x.count(1), 12);
        check.due("and is not away", x.of(2, 4), 0);
        x.run(1);
        check.due("with 12 it is away", x.of(2, 4), 1);
        check.due("12 are there", x.count(1), 12);
        check.due("it takes no number", x.count(6), 12);
        check.due("and does not cost", x.of(2, 5), 2);
        x.coming(0);
        x.run(1);
        check.due("room by the house of the week", x.of(2, 4), 1);
        check.due("12 are there", x.count(1), 12);
        check.due("with the next number", x.person(11, 1), 12);
    }

    @Holds(promise = 7, says = "Then each on THE LIST WAITED one more,")
    static void waited(Check check) {
        ThreeOffers x = new ThreeOffers();
        x.join(0);
        x.join(0);
        x.coming(0);
        x.joining(1);
        x.run(1);
        check.due("who is housed waited no more", x.of(0, 1), 0);
        check.due("who stays", x.person(0, 4), 1);
        check.due("who joined in this week", x.person(1, 4), 1);
        x.run(1);
        check.due("together", x.of(0, 1), 1);
    }

    @Holds(promise = 7, says = "has grow POINTS more (99 at most),")
    static void points(Check check) {
        ThreeOffers x = Texts.ruled("grow 9");
        x.join(0);
        x.run(10);
        check.due("90", x.person(0, 2), 90);
        Texts.put(x, "grow 8");
        x.rules();
        x.run(1);
        check.due("98", x.person(0, 2), 98);
        Texts.put(x, "grow 0");
        x.rules();
        x.run(1);
        check.due("none more", x.person(0, 2), 98);
        Texts.put(x, "grow 2");
        x.rules();
        x.run(1);
        check.due("99, not 100", x.person(0, 2), 99);
        Texts.put(x, "grow 9");
        x.rules();
        x.run(1);
        check.due("99 still", x.person(0, 2), 99);
    }

    @Holds(promise = 9, says = "and COSTS the NEED of its SORT.")
    static void costs(Check check) {
        ThreeOffers x = Texts.ruled("noes 0;way 2 bar 1");
        for (int sort = 0; sort <= 3; sort++) x.need(sort, 6 + sort);
        x.join(2);
        x.join(0);
        x.join(0);
        x.coming(0);
        x.coming(-1);
        x.joining(1);
        x.run(1);
        check.due("who stays", x.of(0, 5), 6);
        check.due("who joined in this week", x.of(1, 5), 7);
        check.due("who is gone", x.of(2, 5), 0);
        check.due("who is not there", x.of(3, 5), 0);
        x.need(0, 1);
        check.due("what it cost is not changed by need", x.of(0, 5), 6);
        x.run(1);
        check.due("but what it costs then", x.of(0, 5), 7);
        check.due("two of a sort", x.of(1, 5), 21);
    }

    @Holds(promise = 7, says = "WEEKS are one more.")
    static void oneWeekMore(Check check) {
        ThreeOffers x = new ThreeOffers();
        for (int week = 1; week <= 3; week++) check.due("week", x.run(1), week);
        check.due("counted", x.count(0), 3);
        x.would(60, 0);
        check.due("not by what would be", x.count(0), 3);
    }
}
