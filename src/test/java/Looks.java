import java.util.ArrayList;
import java.util.List;

/** All that an object shows, in some 200 calls, which leave it as it was. */
final class Looks {
    private Looks() {
    }

    static List<Integer> of(ThreeOffers x) {
        List<Integer> seen = new ArrayList<>();
        for (int what = 0; what <= 6; what++) seen.add(x.count(what));
        for (int what = 0; what <= 3; what++) seen.add(x.rule(what));
        for (int sort = 0; sort <= 3; sort++) {
            for (int what = 0; what <= 2; what++) seen.add(x.way(sort, what));
            for (int what = 0; what <= 5; what++) seen.add(x.of(sort, what));
            seen.add(needOf(x, sort));
            for (int kind = 0; kind <= 3; kind++) seen.add(worthOf(x, sort, kind));
            seen.add(x.chain(sort, -1));
        }
        for (int place = 0; place < 12; place++) {
            for (int what = 0; what <= 4; what++) seen.add(x.person(place, what));
        }
        for (int one = 0; one < 8; one++) seen.add(x.swaps(one));
        // The rows of what comes and who joins show only in the weeks ahead, all places of them in 24.
        for (int n = 1; n <= 24; n++) seen.add(x.would(n, 0));
        for (int what = 1; what <= 4; what++) seen.add(x.would(24, what));
        seen.add(x.empty());
        seen.add(x.fault());
        return seen;
    }

    private static int needOf(ThreeOffers x, int sort) {
        int need = x.need(sort, 1);
        x.need(sort, need);
        return need;
    }

    private static int worthOf(ThreeOffers x, int sort, int kind) {
        int worth = x.worth(sort, kind, 0);
        x.worth(sort, kind, worth);
        return worth;
    }
}
