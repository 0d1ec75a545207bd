/** Boundaries of kinds, sorts, rows and the list; promises 1 to 6, 8 to 10 and 27. */
final class TownSentences {
    private static final int UNKNOWN = -2, OUTSIDE = -3, FULL = -5;
    private static final int LEAST = Integer.MIN_VALUE, GREATEST = Integer.MAX_VALUE;

    private TownSentences() {
    }

    @Holds(promise = 1, says = "An object is used for at most 512 calls after it has been made;")
    static void lastCall(Check check) {
        ThreeOffers x = new ThreeOffers();
        for (int call = 1; call < 512; call++) x.run(1);
        check.due("call 512", x.run(1), 512);
    }

    @Holds(promise = {2, 3, 4, 5, 6, 9, 16, 18, 21, 22, 25},
        says = "KINDS of houses and SORTS of people are 0 ..")
    static void leastKindAndSort(Check check) {
        kindsAndSortsTold(check, 0, -1, -2);
        kindsAndSortsAsked(check, 0, -1, -2);
        kindsAndSortsTold(check, 0, LEAST, LEAST);
        kindsAndSortsAsked(check, 0, LEAST, LEAST);
    }

    @Holds(promise = {2, 3, 4, 5, 6, 9, 16, 18, 21, 22, 25}, says = "3 each.")
    static void greatestKindAndSort(Check check) {
        kindsAndSortsTold(check, 3, 4, 4);
        kindsAndSortsAsked(check, 3, 4, 4);
        kindsAndSortsTold(check, 3, GREATEST, GREATEST);
        kindsAndSortsAsked(check, 3, GREATEST, GREATEST);
    }

    private static void kindsAndSortsTold(Check check, int known, int unknown, int norNone) {
        ThreeOffers x = new ThreeOffers();
        check.due("worth to sort " + known, x.worth(known, 1, 5), 0);
        check.due("worth to sort " + unknown, x.worth(unknown, 1, 5), UNKNOWN);
        check.due("worth of kind " + known, x.worth(1, known, 5), 0);
        check.due("worth of kind " + unknown, x.worth(1, unknown, 5), UNKNOWN);
        check.due("need of " + known, x.need(known, 2), 1);
        check.due("need of " + unknown, x.need(unknown, 2), UNKNOWN);
        check.due("coming " + known, x.coming(known), 1);
        check.due("coming " + norNone, x.coming(norNone), UNKNOWN);
        check.due("joining " + known, x.joining(known), 1);
        check.due("joining " + norNone, x.joining(norNone), UNKNOWN);
        check.due("join " + known, x.join(known), 1);
        check.due("join " + unknown, x.join(unknown), UNKNOWN);
        check.due("holder of sort " + known, x.holder(known, 1), 0);
        check.due("holder of sort " + unknown, x.holder(unknown, 1), UNKNOWN);
        check.due("holder of kind " + known, x.holder(1, known), 1);
        check.due("holder of kind " + unknown, x.holder(1, unknown), UNKNOWN);
    }

    private static void kindsAndSortsAsked(Check check, int known, int unknown, int norNone) {
        ThreeOffers x = new ThreeOffers();
        x.join(known);
        check.due("of sort " + known, x.of(known, 0), 0);
        check.due("of sort " + unknown, x.of(unknown, 0), UNKNOWN);
        check.due("way of " + known, x.way(known, 0), 0);
        check.due("way of " + unknown, x.way(unknown, 0), UNKNOWN);
        check.due("gain of " + known, x.gain(known, 1), -1);
        check.due("gain of " + unknown, x.gain(unknown, 1), LEAST);
        check.due("lot for kind " + known, x.lot(0, known, 1, known, 0), 1);
        check.due("lot for kind " + norNone, x.lot(0, known, 1, norNone, 0), UNKNOWN);
        check.due("chain from kind " + known, x.chain(known, -1), 0);
        check.due("chain from kind " + unknown, x.chain(unknown, -1), UNKNOWN);
    }

    @Holds(promise = 1, says = "An empty LIST, WEEK 0.")
    static void newObject(Check check) {
        ThreeOffers old = new ThreeOffers();
        old.join(0);
        old.run(9);
        ThreeOffers x = new ThreeOffers();
        check.due("persons", x.count(1), 0);
        check.due("the first of none", x.person(0, 0), UNKNOWN);
        check.due("weeks", x.count(0), 0);
        check.due("the first week", x.run(1), 1);
    }

    @Holds(promise = 2, says = "WORTH of a KIND to a SORT (0 .. 99; 0 at first)")
    static void worthBounds(Check check) {
        ThreeOffers x = new ThreeOffers();
        for (int sort = 0; sort <= 3; sort++) {
            for (int kind = 0; kind <= 3; kind++) check.due("at first", x.worth(sort, kind, 0), 0);
        }
        check.due("99", x.worth(1, 2, 99), 0);
        check.due("100", x.worth(1, 2, 100), OUTSIDE);
        check.due("0", x.worth(1, 2, 0), 99);
        check.due("-1", x.worth(1, 2, -1), OUTSIDE);
        check.due("the greatest int", x.worth(1, 2, GREATEST), OUTSIDE);
        check.due("the least int", x.worth(1, 2, LEAST), OUTSIDE);
    }

    @Holds(promise = 2, says = "WORTH of a KIND to a SORT: that which it was.")
    static void worthWas(Check check) {
        ThreeOffers x = new ThreeOffers();
        check.due("at first", x.worth(3, 0, 7), 0);
        check.due("then", x.worth(3, 0, 7), 7);
        check.due("of the other way round", x.worth(0, 3, 8), 0);
        check.due("still", x.worth(3, 0, 9), 7);
    }

    @Holds(promise = 2, says = "UNKNOWN; OUTSIDE.")
    static void worthRefused(Check check) {
        ThreeOffers x = new ThreeOffers();
        x.worth(0, 0, 7);
        check.due("sort and number wrong", x.worth(4, 0, 100), UNKNOWN);
        check.due("kind and number wrong", x.worth(0, -1, -1), UNKNOWN);
        check.due("number wrong", x.worth(0, 0, 100), OUTSIDE);
        check.due("as it was", x.worth(0, 0, 0), 7);
    }

    @Holds(promise = 3, says = "NEED of a SORT (1 .. 9; 1 at first)")
    static void needBounds(Check check) {
        ThreeOffers x = new ThreeOffers();
        for (int sort = 0; sort <= 3; sort++) check.due("at first", x.need(sort, 1), 1);
        check.due("9", x.need(2, 9), 1);
        check.due("10", x.need(2, 10), OUTSIDE);
        check.due("1", x.need(2, 1), 9);
        check.due("0", x.need(2, 0), OUTSIDE);
        check.due("the greatest int", x.need(2, GREATEST), OUTSIDE);
        check.due("the least int", x.need(2, LEAST), OUTSIDE);
    }

    @Holds(promise = 3, says = "NEED of a SORT: that which it was.")
    static void needWas(Check check) {
        ThreeOffers x = new ThreeOffers();
        check.due("at first", x.need(3, 4), 1);
        check.due("of another", x.need(2, 5), 1);
        check.due("then", x.need(3, 4), 4);
    }

    @Holds(promise = 3, says = "UNKNOWN; OUTSIDE.")
    static void needRefused(Check check) {
        ThreeOffers x = new ThreeOffers();
        x.need(0, 7);
        check.due("both wrong", x.need(-1, 0), UNKNOWN);
        check.due("both wrong", x.need(4, 10), UNKNOWN);
        check.due("number wrong", x.need(0, 0), OUTSIDE);
        check.due("as it was", x.need(0, 1), 7);
    }

    @Holds(promise = 4, says = "COMING is a row of 24 at most, each a KIND or none")
    static void comingBounds(Check check) {
        ThreeOffers x = new ThreeOffers();
        for (int many = 1; many <= 23; many++) x.coming(many % 5 - 1);
        check.due("the 24th", x.coming(3), 24);
        check.due("the 25th", x.coming(3), FULL);
        check.due("none as the 25th", x.coming(-1), FULL);
        check.due("how many", x.count(2), 24);
    }

    @Holds(promise = 4, says = "COMING has one more: a KIND, or none (-1): how many.")
    static void comingOneMore(Check check) {
        ThreeOffers x = new ThreeOffers();
        check.due("the first", x.coming(-1), 1);
        for (int kind = 0; kind <= 3; kind++) check.due("kind " + kind, x.coming(kind), kind + 2);
        check.due("nor a kind nor none", x.coming(-2), UNKNOWN);
        x.run(1);
        check.due("none came", x.empty(), 0);
        x.run(4);
        check.due("four came", x.empty(), 4);
    }

    @Holds(promise = 4, says = "UNKNOWN; FULL.")
    static void comingRefused(Check check) {
        ThreeOffers x = new ThreeOffers();
        for (int i = 0; i < 24; i++) x.coming(0);
        check.due("unknown and full", x.coming(4), UNKNOWN);
        check.due("unknown and full", x.coming(-2), UNKNOWN);
        check.due("full", x.coming(0), FULL);
        check.due("the other row", x.joining(0), 1);
    }

    @Holds(promise = 5, says = "JOINING a row of 24 at most, each a SORT or none")
    static void joiningBounds(Check check) {
        ThreeOffers x = new ThreeOffers();
        for (int many = 1; many <= 23; many++) x.joining(many % 5 - 1);
        check.due("the 24th", x.joining(3), 24);
        check.due("the 25th", x.joining(3), FULL);
        check.due("none as the 25th", x.joining(-1), FULL);
        check.due("how many", x.count(3), 24);
    }

    @Holds(promise = 5, says = "JOINING has one more: a SORT, or none (-1): how many.")
    static void joiningOneMore(Check check) {
        ThreeOffers x = new ThreeOffers();
        check.due("the first", x.joining(-1), 1);
        for (int sort = 0; sort <= 3; sort++) check.due("sort " + sort, x.joining(sort), sort + 2);
        check.due("nor a sort nor none", x.joining(-2), UNKNOWN);
        check.due("nobody joins now", x.count(1), 0);
        x.run(1);
        check.due("none joined", x.count(1), 0);
        x.run(4);
        check.due("four joined", x.count(1), 4);
        check.due("the last of them", x.person(3, 0), 3);
    }

    @Holds(promise = 5, says = "UNKNOWN; FULL.")
    static void joiningRefused(Check check) {
        ThreeOffers x = new ThreeOffers();
        for (int i = 0; i < 24; i++) x.joining(0);
        check.due("unknown and full", x.joining(4), UNKNOWN);
        check.due("unknown and full", x.joining(-2), UNKNOWN);
        check.due("full", x.joining(0), FULL);
        check.due("the other row", x.coming(0), 1);
    }

    @Holds(promise = {4, 5}, says = "(both empty at first)")
    static void rowsAtFirst(Check check) {
        ThreeOffers x = new ThreeOffers();
        check.due("coming", x.count(2), 0);
        check.due("joining", x.count(3), 0);
        x.run(100);
        check.due("no house came", x.empty(), 0);
        check.due("nobody joined", x.count(1), 0);
        check.due("no number given", x.count(6), 0);
    }

    @Holds(promise = 6, says = "THE LIST has PERSONS, 12 at most:")
    static void listBounds(Check check) {
        ThreeOffers x = new ThreeOffers();
        for (int many = 1; many <= 11; many++) x.join(many % 4);
        check.due("the twelfth", x.join(0), 12);
        check.due("the thirteenth", x.join(0), FULL);
        x.joining(1);
        x.run(2);
        check.due("by weeks", x.count(1), 12);
        x.coming(0);
        x.coming(-1);
        x.run(1);
        check.due("one out, one in", x.count(1), 12);
        check.due("the one that is in", x.person(11, 0), 1);
    }

    @Holds(promise = 6, says = "A PERSON of a SORT joins now: how many there are on THE LIST.")
    static void joinsNow(Check check) {
        ThreeOffers x = new ThreeOffers();
        check.due("onto an empty list", x.join(3), 1);
        check.due("its sort", x.person(0, 0), 3);
        check.due("no week goes by", x.count(0), 0);
        check.due("nothing is waited", x.person(0, 4), 0);
        x.coming(0);
        x.run(1);
        check.due("onto a list that is empty again", x.join(2), 1);
        check.due("its sort", x.person(0, 0), 2);
        check.due("beside it", x.join(1), 2);
    }

    @Holds(promise = 6, says = "UNKNOWN; FULL.")
    static void joinRefused(Check check) {
        ThreeOffers x = new ThreeOffers();
        check.due("none does not join", x.join(-1), UNKNOWN);
        for (int i = 0; i < 12; i++) x.join(0);
        check.due("unknown and full", x.join(4), UNKNOWN);
        check.due("full", x.join(3), FULL);
        check.due("no number taken", x.count(6), 12);
        check.due("nobody is away", x.of(3, 4), 0);
    }

    @Holds(promise = {6, 8}, says = "a NUMBER (the next one, from 0 on, when it joins)")
    static void numbers(Check check) {
        ThreeOffers x = new ThreeOffers();
        check.due("the next at first", x.count(6), 0);
        for (int i = 0; i < 12; i++) x.join(0);
        check.due("the first", x.person(0, 1), 0);
        check.due("the twelfth", x.person(11, 1), 11);
        x.coming(0);
        x.run(3);
        x.join(0);
        check.due("no number twice", x.person(9, 1), 12);
        check.due("the least on the list", x.person(0, 1), 3);
    }

    @Holds(promise = 8, says = "POINTS (0 .. 99; 0 at first)")
    static void pointsBounds(Check check) {
        ThreeOffers x = new ThreeOffers();
        x.join(0);
        check.due("at first", x.person(0, 2), 0);
        x.run(98);
        check.due("after 98 weeks", x.person(0, 2), 98);
        x.run(1);
        check.due("after 99", x.person(0, 2), 99);
        x.run(1);
        check.due("after 100", x.person(0, 2), 99);
        x.run(100);
        check.due("after 200", x.person(0, 2), 99);
        x.join(0);
        check.due("of one that joins later", x.person(1, 2), 0);
        x.coming(0);
        x.run(1);
        x.join(0);
        check.due("of one that joins when one with 99 has left", x.person(1, 2), 0);
    }

    @Holds(promise = 8, says = "NOES, WAITED (0 each)")
    static void noesAndWaited(Check check) {
        ThreeOffers x = Texts.ruled("noes 9;then stay;way 0 bar 1");
        x.join(0);
        check.due("noes at first", x.person(0, 3), 0);
        check.due("waited at first", x.person(0, 4), 0);
        x.coming(0);
        for (int i = 0; i < 20; i++) x.run(100);
        check.due("noes have no end", x.person(0, 3), 2000);
        check.due("nor has what it waited", x.person(0, 4), 2000);
        x.join(1);
        check.due("noes of one that joins later", x.person(1, 3), 0);
        check.due("what it waited", x.person(1, 4), 0);
        ThreeOffers left = Texts.ruled("noes 1;way 0 bar 1");
        left.join(0);
        left.coming(0);
        left.run(2);
        left.join(0);
        check.due("noes of one that joins when one with two is gone", left.person(0, 3), 0);
        check.due("what it waited", left.person(0, 4), 0);
    }

    @Holds(promise = 8, says = "Of the PERSON at a place in ORDER now (from 0): SORT (what 0), NUMBER (1), POINTS (2),"
        + " NOES (3), WAITED (4).")
    static void personAtPlace(Check check) {
        ThreeOffers x = Texts.ruled("grow 5;noes 9;way 2 bar 1");
        x.coming(0);
        x.joining(-1);
        x.joining(1);
        x.join(2);
        x.run(2);
        int[] first = {2, 0, 10, 2, 2};
        int[] last = {1, 1, 5, 0, 1};
        for (int what = 0; what <= 4; what++) {
            check.due("what " + what + " of the first", x.person(0, what), first[what]);
            check.due("what " + what + " of the last", x.person(1, what), last[what]);
        }
        check.due("in front of the first", x.person(-1, 0), UNKNOWN);
        check.due("behind the last", x.person(2, 0), UNKNOWN);
        x.need(1, 2);
        Texts.put(x, "order need");
        x.rules();
        check.due("the first as it is now", x.person(0, 0), 1);
    }

    @Holds(promise = 8, says = "UNKNOWN; OUTSIDE.")
    static void personRefused(Check check) {
        ThreeOffers x = new ThreeOffers();
        check.due("of an empty list", x.person(0, 0), UNKNOWN);
        for (int i = 0; i < 12; i++) x.join(0);
        check.due("the last of a full list", x.person(11, 0), 0);
        check.due("behind it", x.person(12, 0), UNKNOWN);
        check.due("the greatest int", x.person(GREATEST, 0), UNKNOWN);
        check.due("the least int", x.person(LEAST, 0), UNKNOWN);
        check.due("what -1", x.person(0, -1), OUTSIDE);
        check.due("what 5", x.person(0, 5), OUTSIDE);
        check.due("both wrong", x.person(12, 5), UNKNOWN);
        check.due("both wrong", x.person(-1, -1), UNKNOWN);
    }

    @Holds(promise = 9, says = "Of a SORT in all WEEKS: HOUSED (what 0), what those WAITED, together (1), the WORTH that"
        + " they got (2), GONE (3), AWAY (4), COST (5).")
    static void ofAllWeeks(Check check) {
        ThreeOffers x = Texts.ruled("noes 0;way 1 bar 9");
        x.worth(0, 0, 20);
        x.worth(1, 0, 8);
        x.need(0, 3);
        for (int i = 0; i < 10; i++) x.join(0);
        x.join(1);
        x.join(1);
        x.joining(2);
        x.run(2);
        int[] before = {0, 0, 0, 0, 0, 60};
        for (int what = 0; what <= 5; what++) check.due("nobody was housed: " + what, x.of(0, what), before[what]);
        check.due("away", x.of(2, 4), 2);
        x.coming(0);
        x.run(10);
        int[] after = {10, 65, 200, 0, 0, 60 + 3 * 45};
        for (int what = 0; what <= 5; what++) check.due("all were housed: " + what, x.of(0, what), after[what]);
        x.run(1);
        check.due("gone", x.of(1, 3), 2);
        check.due("the gone were not housed", x.of(1, 0), 0);
        check.due("nor did they get a thing", x.of(1, 2), 0);
        check.due("they cost till then", x.of(1, 5), 24);
        check.due("away", x.of(2, 4), 2);
    }

    @Holds(promise = 9, says = "UNKNOWN; OUTSIDE.")
    static void ofRefused(Check check) {
        ThreeOffers x = new ThreeOffers();
        check.due("what -1", x.of(0, -1), OUTSIDE);
        check.due("what 6", x.of(0, 6), OUTSIDE);
        check.due("the greatest what", x.of(3, GREATEST), OUTSIDE);
        check.due("the least what", x.of(3, LEAST), OUTSIDE);
        check.due("both wrong", x.of(4, 6), UNKNOWN);
        check.due("both wrong", x.of(-1, -1), UNKNOWN);
    }

    @Holds(promise = 10, says = "EMPTY houses.")
    static void emptyHouses(Check check) {
        ThreeOffers x = new ThreeOffers();
        check.due("at first", x.empty(), 0);
        x.coming(0);
        for (int i = 0; i < 20; i++) x.run(100);
        check.due("in all weeks", x.empty(), 2000);
        check.due("what would be is not told", x.would(60, 2), 60);
        check.due("still", x.empty(), 2000);
    }

    @Holds(promise = 27, says = "0 WEEKS, 1 PERSONS on THE LIST, 2 COMING, 3 JOINING, 4 bytes of THE TEXT, 5 HOLDERS, 6"
        + " the next NUMBER.")
    static void counts(Check check) {
        ThreeOffers x = new ThreeOffers();
        for (int what = 0; what <= 6; what++) check.due("at first " + what, x.count(what), 0);
        for (int i = 0; i < 13; i++) x.join(1);
        for (int i = 0; i < 25; i++) x.coming(i == 0 ? 0 : -1);
        for (int i = 0; i < 25; i++) x.joining(-1);
        for (int i = 0; i < 20; i++) x.write(0, 8);
        for (int i = 0; i < 9; i++) x.holder(0, 0);
        int[] full = {0, 12, 24, 24, 160, 8, 12};
        for (int what = 0; what <= 6; what++) check.due("when full " + what, x.count(what), full[what]);
        x.run(1);
        check.due("weeks", x.count(0), 1);
        check.due("persons are fewer", x.count(1), 11);
        check.due("numbers are not", x.count(6), 12);
        x.erase();
        check.due("bytes", x.count(4), 0);
    }

    @Holds(promise = 27, says = "OUTSIDE.")
    static void countRefused(Check check) {
        ThreeOffers x = new ThreeOffers();
        check.due("what -1", x.count(-1), OUTSIDE);
        check.due("what 7", x.count(7), OUTSIDE);
        check.due("the greatest what", x.count(GREATEST), OUTSIDE);
        check.due("the least what", x.count(LEAST), OUTSIDE);
    }
}
