import java.util.List;

/** Refused calls, in a town in which all that can be full is full; all promises that refuse. */
final class RefusalSentences {
    private static final int UNKNOWN = -2, OUTSIDE = -3, NOT = -4, FULL = -5;

    private RefusalSentences() {
    }

    private interface Call {
        long on(ThreeOffers x);
    }

    private record Refused(String name, Call call) {
    }

    private static final List<Refused> UNKNOWN_ONES = List.of(
        new Refused("worth of sort 4", x -> x.worth(4, 0, 1)),
        new Refused("worth of sort -1", x -> x.worth(-1, 0, 1)),
        new Refused("worth of kind 4", x -> x.worth(0, 4, 1)),
        new Refused("worth of kind -1", x -> x.worth(0, -1, 1)),
        new Refused("need of sort 4", x -> x.need(4, 2)),
        new Refused("need of sort -1", x -> x.need(-1, 2)),
        new Refused("coming of kind 4", x -> x.coming(4)),
        new Refused("coming of kind -2", x -> x.coming(-2)),
        new Refused("joining of sort 4", x -> x.joining(4)),
        new Refused("joining of sort -2", x -> x.joining(-2)),
        new Refused("join of sort 4", x -> x.join(4)),
        new Refused("join of sort -1", x -> x.join(-1)),
        new Refused("person 12", x -> x.person(12, 0)),
        new Refused("person -1", x -> x.person(-1, 0)),
        new Refused("of sort 4", x -> x.of(4, 0)),
        new Refused("of sort -1", x -> x.of(-1, 0)),
        new Refused("way of sort 4", x -> x.way(4, 0)),
        new Refused("way of sort -1", x -> x.way(-1, 0)),
        new Refused("lot of person 6", x -> x.lot(6, 0, 1, 0, 0)),
        new Refused("lot of person -1", x -> x.lot(-1, 0, 1, 0, 0)),
        new Refused("lot for kind 4", x -> x.lot(0, 0, 1, 4, 0)),
        new Refused("lot for kind -2", x -> x.lot(0, 0, 1, -2, 0)),
        new Refused("holder of sort 4", x -> x.holder(4, 0)),
        new Refused("holder of kind -1", x -> x.holder(0, -1)),
        new Refused("swaps of holder 8", x -> x.swaps(8)),
        new Refused("swaps of holder -1", x -> x.swaps(-1)),
        new Refused("chain of kind 4", x -> x.chain(4, -1)),
        new Refused("chain of kind -1", x -> x.chain(-1, -1)));

    private static final List<Refused> OUTSIDE_ONES = List.of(
        new Refused("worth 100", x -> x.worth(0, 0, 100)),
        new Refused("worth -1", x -> x.worth(0, 0, -1)),
        new Refused("need 10", x -> x.need(0, 10)),
        new Refused("need 0", x -> x.need(0, 0)),
        new Refused("run 0", x -> x.run(0)),
        new Refused("run 101", x -> x.run(101)),
        new Refused("run beyond 2000", x -> x.run(51)),
        new Refused("person, what 5", x -> x.person(0, 5)),
        new Refused("of, what 6", x -> x.of(0, 6)),
        new Refused("write 0", x -> x.write(0, 0)),
        new Refused("write 9", x -> x.write(0, 9)),
        new Refused("rule 4", x -> x.rule(4)),
        new Refused("way, what 3", x -> x.way(0, 3)),
        new Refused("would of 61", x -> x.would(61, 0)),
        new Refused("would, what 5", x -> x.would(1, 5)),
        new Refused("best of 61", x -> x.best(61, 0)),
        new Refused("best, what 2", x -> x.best(1, 2)),
        new Refused("rest of 41", x -> x.rest(41, -1)),
        new Refused("rest, i -2", x -> x.rest(1, -2)),
        new Refused("lot of 5", x -> x.lot(0, 0, 5, 0, 0)),
        new Refused("lot, part 2", x -> x.lot(0, 0, 1, 0, 2)),
        new Refused("chain, i -2", x -> x.chain(0, -2)),
        new Refused("mean, p 10", x -> x.mean(10, 1, 1, 0)),
        new Refused("mean, q 0", x -> x.mean(1, 0, 1, 0)),
        new Refused("mean, most 7", x -> x.mean(1, 1, 7, 0)),
        new Refused("mean, part 2", x -> x.mean(1, 1, 1, 2)),
        new Refused("count 7", x -> x.count(7)));

    private static final List<Refused> FULL_ONES = List.of(
        new Refused("coming", x -> x.coming(0)),
        new Refused("coming none", x -> x.coming(-1)),
        new Refused("joining", x -> x.joining(3)),
        new Refused("joining none", x -> x.joining(-1)),
        new Refused("join", x -> x.join(2)),
        new Refused("write one byte", x -> x.write(32, 1)),
        new Refused("write eight bytes", x -> x.write(0, 8)),
        new Refused("holder", x -> x.holder(1, 2)));

    /** Weeks are 1950, the rows have 24 each, the list 12, the text 160 bytes with a fault, and there are 8 holders. */
    private static ThreeOffers full() {
        ThreeOffers x = Texts.ruled("order need;noes 2;then back;grow 4;way 0 bar 5;way 1 fall 30 2;way 2 bar 11");
        for (int sort = 0; sort <= 3; sort++) {
            for (int kind = 0; kind <= 3; kind++) x.worth(sort, kind, (sort * 7 + kind * 5) % 13);
            x.need(sort, 1 + sort * 2);
        }
        for (int i = 0; i < 24; i++) {
            x.coming(i % 5 - 1);
            x.joining(i * 3 % 5 - 1);
        }
        x.run(50);
        for (int i = 0; i < 19; i++) x.run(100);
        for (int i = 0; i < 12; i++) x.join(i % 4);
        for (int i = 0; i < 8; i++) x.holder(i % 4, i / 2);
        for (int i = 0; i < 20; i++) x.write(Texts.bytes("noes 1;;"), 8);
        return x;
    }

    @Holds(promise = {2, 3, 4, 5, 6, 7, 8, 9, 11, 14, 15, 16, 17, 18, 19, 20, 21, 22, 23, 25, 26, 27},
        says = "Refused, and nothing changes:")
    static void nothingChanges(Check check) {
        ThreeOffers town = full();
        int[] counts = {1950, 12, 24, 24, 160, 8};
        for (int what = 0; what <= 5; what++) check.due("the town is full: " + what, town.count(what), counts[what]);
        List<Integer> before = Looks.of(town);
        for (List<Refused> some : List.of(UNKNOWN_ONES, OUTSIDE_ONES, FULL_ONES)) {
            for (Refused one : some) unchanged(check, one, before);
        }
        unchanged(check, new Refused("rules", x -> x.rules()), before);
        unchanged(check, new Refused("gain of sort 4", x -> x.gain(4, 1)), before);
        unchanged(check, new Refused("gain of 61", x -> x.gain(0, 61)), before);
    }

    private static void unchanged(Check check, Refused refused, List<Integer> before) {
        ThreeOffers x = full();
        check.holds(refused.name + " is refused", refused.call.on(x) <= UNKNOWN);
        check.holds(refused.name + " changes nothing", Looks.of(x).equals(before));
    }

    private static void answered(Check check, List<Refused> some, int due) {
        for (Refused one : some) check.due(one.name, one.call.on(full()), due);
    }

    @Holds(promise = {2, 3, 4, 5, 6, 8, 9, 16, 21, 22, 23, 25}, says = "UNKNOWN (no such KIND, SORT, PERSON, HOLDER),")
    static void unknownOnes(Check check) {
        check.due("UNKNOWN", ThreeOffers.UNKNOWN, UNKNOWN);
        answered(check, UNKNOWN_ONES, UNKNOWN);
        check.due("no person at all", new ThreeOffers().person(0, 0), UNKNOWN);
        check.due("no person for a lot", new ThreeOffers().lot(0, 0, 1, 0, 0), UNKNOWN);
        check.due("no holder at all", new ThreeOffers().swaps(0), UNKNOWN);
    }

    @Holds(promise = {2, 3, 7, 8, 9, 11, 15, 16, 17, 19, 20, 21, 25, 26, 27}, says = "OUTSIDE (another number is not as"
        + " told),")
    static void outsideOnes(Check check) {
        check.due("OUTSIDE", ThreeOffers.OUTSIDE, OUTSIDE);
        answered(check, OUTSIDE_ONES, OUTSIDE);
    }

    @Holds(promise = 14, says = "NOT (not now: as told),")
    static void notNow(Check check) {
        check.due("NOT", ThreeOffers.NOT, NOT);
        ThreeOffers x = new ThreeOffers();
        check.due("an empty text", x.rules(), NOT);
        x.write(Texts.bytes("noes"), 4);
        check.due("a text cut short", x.rules(), NOT);
        x.write(Texts.bytes(" 3"), 2);
        check.due("now", x.rules(), 1);
        check.due("a text that is full of faults", full().rules(), NOT);
    }

    @Holds(promise = {2, 3, 4, 5, 6, 8, 9, 11, 16, 18, 21, 22, 25}, says = "FULL: the first of these that fits.")
    static void firstThatFits(Check check) {
        check.due("FULL", ThreeOffers.FULL, FULL);
        answered(check, FULL_ONES, FULL);
        ThreeOffers x = full();
        check.due("worth: unknown, outside", x.worth(4, 4, 100), UNKNOWN);
        check.due("need: unknown, outside", x.need(4, 0), UNKNOWN);
        check.due("coming: unknown, full", x.coming(4), UNKNOWN);
        check.due("joining: unknown, full", x.joining(4), UNKNOWN);
        check.due("join: unknown, full", x.join(4), UNKNOWN);
        check.due("person: unknown, outside", x.person(12, 5), UNKNOWN);
        check.due("of: unknown, outside", x.of(4, 6), UNKNOWN);
        check.due("write: outside, full", x.write(0, 9), OUTSIDE);
        check.due("way: unknown, outside", x.way(4, 3), UNKNOWN);
        check.due("gain: unknown, outside", x.gain(4, 0), Integer.MIN_VALUE);
        check.due("lot: unknown place, outside", x.lot(6, 0, 0, 0, 2), UNKNOWN);
        check.due("lot: unknown kind, outside", x.lot(0, 0, 5, 4, 2), UNKNOWN);
        check.due("holder: unknown, full", x.holder(4, 0), UNKNOWN);
        check.due("chain: unknown, outside", x.chain(4, -2), UNKNOWN);
    }
}
