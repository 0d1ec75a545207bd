/** Each promise by itself: ordinary inputs, the edges that the document names, wrong inputs. */
public final class PromisesTest {
    private static final int NONE = -1, UNKNOWN = -2, OUTSIDE = -3, NOT = -4, FULL = -5;
    private static final Check CHECK = new Check();

    public static void main(String[] args) {
        newObject();
        worth();
        need();
        coming();
        joining();
        join();
        run();
        weekByWeek();
        person();
        of();
        empty();
        write();
        erase();
        fault();
        faultsAtEdges();
        rules();
        rule();
        way();
        would();
        gain();
        best();
        rest();
        restForgets();
        lot();
        holder();
        swaps();
        rings();
        chain();
        mean();
        count();
        CHECK.end();
    }

    private static void due(String call, long got, long want) {
        CHECK.due(call, got, want);
    }

    private static void newObject() {
        ThreeOffers x = new ThreeOffers();
        for (int what = 0; what <= 6; what++) due("1 count " + what, x.count(what), 0);
        for (int sort = 0; sort < 4; sort++) {
            for (int what = 0; what <= 5; what++) due("1 of", x.of(sort, what), 0);
            for (int what = 0; what <= 2; what++) due("1 way", x.way(sort, what), 0);
            for (int kind = 0; kind < 4; kind++) due("1 worth", x.worth(sort, kind, 0), 0);
            due("1 need", x.need(sort, 1), 1);
        }
        due("1 empty", x.empty(), 0);
        due("1 order", x.rule(0), 0);
        due("1 noes", x.rule(1), 2);
        due("1 then", x.rule(2), 0);
        due("1 grow", x.rule(3), 1);
        due("1 person", x.person(0, 0), UNKNOWN);
        due("1 swaps", x.swaps(0), UNKNOWN);
        due("1 rest", x.rest(1, -1), 625);
        due("1 rest at once", new ThreeOffers().rest(1, -1), 625);
        due("1 another object", new ThreeOffers().count(1), 0);
    }

    private static void worth() {
        ThreeOffers x = new ThreeOffers();
        due("2 first", x.worth(3, 3, 99), 0);
        due("2 then", x.worth(3, 3, 0), 99);
        due("2 again", x.worth(3, 3, 7), 0);
        due("2 others stay", x.worth(3, 2, 1), 0);
        due("2 others stay", x.worth(2, 3, 1), 0);
        due("2 sort -1", x.worth(-1, 0, 5), UNKNOWN);
        due("2 sort 4", x.worth(4, 0, 5), UNKNOWN);
        due("2 kind -1", x.worth(0, -1, 5), UNKNOWN);
        due("2 kind 4", x.worth(0, 4, 5), UNKNOWN);
        due("2 unknown first", x.worth(0, 4, 100), UNKNOWN);
        due("2 v -1", x.worth(3, 3, -1), OUTSIDE);
        due("2 v 100", x.worth(3, 3, 100), OUTSIDE);
        due("2 v least", x.worth(3, 3, Integer.MIN_VALUE), OUTSIDE);
        due("2 nothing changed", x.worth(3, 3, 7), 7);
    }

    private static void need() {
        ThreeOffers x = new ThreeOffers();
        due("3 first", x.need(0, 9), 1);
        due("3 then", x.need(0, 1), 9);
        due("3 other", x.need(3, 2), 1);
        due("3 sort -1", x.need(-1, 0), UNKNOWN);
        due("3 sort 4", x.need(4, 3), UNKNOWN);
        due("3 v 0", x.need(3, 0), OUTSIDE);
        due("3 v 10", x.need(3, 10), OUTSIDE);
        due("3 nothing changed", x.need(3, 2), 2);
    }

    private static void coming() {
        ThreeOffers x = new ThreeOffers();
        due("4 kind -2", x.coming(-2), UNKNOWN);
        due("4 kind 4", x.coming(4), UNKNOWN);
        for (int i = 1; i <= 24; i++) due("4 how many", x.coming(i % 5 - 1), i);
        due("4 full", x.coming(0), FULL);
        due("4 none when full", x.coming(-1), FULL);
        due("4 unknown first", x.coming(4), UNKNOWN);
        due("4 still", x.count(2), 24);
        due("4 joining is another row", x.count(3), 0);
    }

    private static void joining() {
        ThreeOffers x = new ThreeOffers();
        due("5 sort -2", x.joining(-2), UNKNOWN);
        due("5 sort 4", x.joining(4), UNKNOWN);
        for (int i = 1; i <= 24; i++) due("5 how many", x.joining(i % 5 - 1), i);
        due("5 full", x.joining(3), FULL);
        due("5 unknown first", x.joining(-2), UNKNOWN);
        due("5 still", x.count(3), 24);
        due("5 coming is another row", x.count(2), 0);
    }

    private static void join() {
        ThreeOffers x = new ThreeOffers();
        due("6 sort -1", x.join(-1), UNKNOWN);
        due("6 sort 4", x.join(4), UNKNOWN);
        for (int i = 1; i <= 12; i++) due("6 how many", x.join(i % 4), i);
        due("6 full", x.join(0), FULL);
        due("6 unknown first", x.join(9), UNKNOWN);
        due("6 numbers", x.count(6), 12);
        due("6 not away", x.of(0, 4), 0);
        due("6 sort of the second", x.person(1, 0), 2);
        due("6 its number", x.person(1, 1), 1);
        for (int what = 2; what <= 4; what++) due("6 nothing yet", x.person(1, what), 0);
        due("6 no week", x.count(0), 0);
        x.coming(0);
        x.run(3);
        x.join(1);
        due("6 in the room of one that left", x.person(9, 1), 12);
        for (int what = 2; what <= 4; what++) due("6 nothing yet of its own", x.person(9, what), 0);
    }

    private static void run() {
        ThreeOffers x = new ThreeOffers();
        due("7 n 0", x.run(0), OUTSIDE);
        due("7 n 101", x.run(101), OUTSIDE);
        due("7 n -1", x.run(-1), OUTSIDE);
        due("7 n greatest", x.run(Integer.MAX_VALUE), OUTSIDE);
        due("7 one", x.run(1), 1);
        for (int i = 1; i < 20; i++) due("7 hundreds", x.run(100), 1 + 100 * i);
        due("7 beyond 2000", x.run(100), OUTSIDE);
        due("7 nothing changed", x.count(0), 1901);
        due("7 to 2000", x.run(99), 2000);
        due("7 one beyond", x.run(1), OUTSIDE);
        due("7 would goes on", x.would(60, 0), 0);
    }

    private static void weekByWeek() {
        ThreeOffers x = Texts.ruled("way 0 bar 50; noes 1; then back; grow 3");
        x.worth(0, 0, 49);
        x.worth(0, 1, 50);
        x.worth(1, 0, 10);
        x.need(1, 4);
        x.join(0);
        x.join(0);
        x.coming(0);
        x.coming(-1);
        x.coming(0);
        x.coming(1);
        x.joining(-1);
        x.joining(1);
        due("7 week 0: both say no", x.run(1), 1);
        due("7 empty", x.empty(), 1);
        due("7 noes of the first", x.person(0, 3), 1);
        due("7 points of it", x.person(0, 2), 3);
        due("7 week 1: no house, one joins", x.run(1), 2);
        due("7 no house is not empty", x.empty(), 1);
        due("7 three", x.count(1), 3);
        due("7 week 2: two go back, the third takes", x.run(1), 3);
        due("7 housed", x.of(1, 0), 1);
        due("7 it waited", x.of(1, 1), 1);
        due("7 number of the first", x.person(0, 1), 3);
        due("7 number of the next", x.person(1, 1), 4);
        due("7 no noes", x.person(0, 3), 0);
        due("7 points since then", x.person(0, 2), 3);
        due("7 it waited on", x.person(0, 4), 3);
        due("7 cost of sort 0", x.of(0, 5), 6);
        due("7 cost of sort 1", x.of(1, 5), 4);
        due("7 week 3: the first takes, one joins", x.run(1), 4);
        due("7 housed", x.of(0, 0), 1);
        due("7 waited", x.of(0, 1), 3);
        due("7 worth got", x.of(0, 2), 50);
        due("7 next number", x.count(6), 6);
        due("7 the one that joined", x.person(1, 0), 1);
        due("7 the rows begin again", x.run(1), 5);
        due("7 the second has a no", x.person(0, 3), 1);
        due("7 the joined one took", x.of(1, 0), 2);

        ThreeOffers falling = Texts.ruled("way 0 fall 20 7; noes 0; then stay");
        falling.worth(0, 0, 6);
        falling.join(0);
        falling.coming(0);
        due("7 fall: 20, 13", falling.run(2), 2);
        due("7 it stays", falling.person(0, 3), 2);
        due("7 fall: 6", falling.run(1), 3);
        due("7 taken", falling.of(0, 0), 1);
        due("7 waited", falling.of(0, 1), 2);
        due("7 on an empty list", falling.run(1), 4);
        due("7 houses are empty", falling.empty(), 3);

        ThreeOffers growing = Texts.ruled("grow 9");
        growing.join(0);
        growing.run(11);
        due("7 points 99", growing.person(0, 2), 99);
        growing.run(1);
        due("7 points 99 at most", growing.person(0, 2), 99);
    }

    private static void person() {
        ThreeOffers x = new ThreeOffers();
        x.need(2, 5);
        x.join(0);
        x.join(2);
        x.join(1);
        x.join(2);
        x.run(2);
        due("8 place -1", x.person(-1, 0), UNKNOWN);
        due("8 place 4", x.person(4, 0), UNKNOWN);
        due("8 unknown first", x.person(4, 5), UNKNOWN);
        due("8 what -1", x.person(0, -1), OUTSIDE);
        due("8 what 5", x.person(0, 5), OUTSIDE);
        for (int place = 0; place < 4; place++) due("8 by time", x.person(place, 1), place);
        due("8 points", x.person(3, 2), 2);
        due("8 noes", x.person(3, 3), 0);
        due("8 waited", x.person(3, 4), 2);
        Texts.put(x, "order need");
        x.rules();
        int[] byNeed = {1, 3, 0, 2};
        for (int place = 0; place < 4; place++) due("8 by need", x.person(place, 1), byNeed[place]);
        due("8 sort by need", x.person(1, 0), 2);
        x.need(1, 6);
        due("8 need told later", x.person(0, 0), 1);
        Texts.put(x, "order points");
        x.rules();
        x.join(3);
        for (int place = 0; place < 5; place++) due("8 by points", x.person(place, 1), place);
        backByPoints();
    }

    private static void backByPoints() {
        ThreeOffers x = Texts.ruled("order points; then back; noes 0; way 0 bar 9");
        x.join(0);
        x.join(1);
        x.join(1);
        x.run(2);
        x.coming(0);
        x.run(1);
        due("8 housed behind a no", x.of(1, 0), 1);
        due("8 the back one is last", x.person(1, 1), 3);
        due("8 with the points of a week", x.person(1, 2), 1);
        due("8 more points ahead", x.person(0, 2), 3);
    }

    private static void of() {
        ThreeOffers x = Texts.ruled("noes 0; way 1 bar 2");
        x.worth(0, 2, 30);
        x.worth(1, 2, 1);
        x.need(0, 3);
        x.coming(2);
        x.join(1);
        for (int i = 0; i < 3; i++) x.join(0);
        x.joining(0);
        x.joining(0);
        x.joining(0);
        x.joining(2);
        due("9 sort -1", x.of(-1, 0), UNKNOWN);
        due("9 sort 4", x.of(4, 9), UNKNOWN);
        due("9 what -1", x.of(0, -1), OUTSIDE);
        due("9 what 6", x.of(0, 6), OUTSIDE);
        x.run(2);
        due("9 housed", x.of(0, 0), 2);
        due("9 waited", x.of(0, 1), 1);
        due("9 got", x.of(0, 2), 60);
        due("9 gone", x.of(0, 3), 0);
        due("9 gone of sort 1", x.of(1, 3), 1);
        due("9 cost", x.of(0, 5), 18);
        due("9 gone do not cost", x.of(1, 5), 0);
        x.worth(0, 2, 1);
        due("9 got as it was then", x.of(0, 2), 60);
        ThreeOffers full = new ThreeOffers();
        for (int i = 0; i < 12; i++) full.join(1);
        full.joining(2);
        full.run(5);
        due("9 away", full.of(2, 4), 5);
        due("9 others not", full.of(1, 4), 0);
        due("9 numbers stay", full.count(6), 12);
        full.coming(0);
        full.run(1);
        due("9 room after one is housed", full.of(2, 4), 5);
        due("9 it joined", full.person(11, 0), 2);
    }

    private static void empty() {
        ThreeOffers x = new ThreeOffers();
        x.run(3);
        due("10 none came", x.empty(), 0);
        x.coming(1);
        x.coming(-1);
        x.run(4);
        due("10 two came", x.empty(), 2);
        x.join(0);
        x.run(2);
        due("10 one taken", x.empty(), 2);
    }

    private static void write() {
        ThreeOffers x = new ThreeOffers();
        due("11 n 0", x.write(0, 0), OUTSIDE);
        due("11 n 9", x.write(0, 9), OUTSIDE);
        due("11 n -1", x.write(0, -1), OUTSIDE);
        due("11 one byte of many", x.write(Texts.bytes("noes 7xx"), 6), 6);
        due("11 none of the rest", x.rules(), 1);
        due("11 read", x.rule(1), 7);
        for (int i = 1; i <= 19; i++) due("11 eights", x.write(-1L, 8), 8 * i);
        due("11 seven", x.write(0, 7), 159);
        due("11 two more", x.write(0, 2), FULL);
        due("11 outside first", x.write(0, 9), OUTSIDE);
        due("11 one more", x.write(0, 1), 160);
        due("11 full", x.write(0, 1), FULL);
        due("11 still", x.count(4), 160);
        due("11 byte 255", x.fault(), 0);
    }

    private static void erase() {
        ThreeOffers x = new ThreeOffers();
        due("12 nothing", x.erase(), 0);
        Texts.put(x, "noes 3; order need");
        due("12 had", x.erase(), 18);
        due("12 empty", x.count(4), 0);
        due("12 again", x.erase(), 0);
        due("12 rules stay", x.rule(1), 2);
        Texts.put(x, "grow 2");
        due("12 written anew", x.rules(), 1);
        due("12 nothing of the old", x.rule(1), 2);
    }

    private static void fault() {
        String[] right = {"order time", "order need", "order points", "noes 0", "noes 9", "then end", "then back",
            "then stay", "grow 0", "grow 9", "way 0 any", "way 3 any", "way 0 bar 0", "way 3 bar 99",
            "way 1 fall 0 0", "way 2 fall 99 9", "noes 09", "way 00 bar 05", "  noes   1  ", "noes 1 ; grow 2",
            "noes 1;noes 2", "way 0 any;way 1 bar 7;way 2 fall 7 1", "noes5", "way0bar9"};
        for (String text : right) due("13 " + text, Texts.fault(text), NONE);
        Object[][] wrong = {{"", 0}, {"   ", 3}, {"order", 5}, {"order ", 6}, {"order x", 6}, {"order 1", 6},
            {"ordertime", 0}, {"orderz time", 0}, {"noes 1a", 6}, {"Order time", 0},
            {"oRder time", 0}, {"order Time", 6}, {"noes", 4}, {"noes x", 5},
            {"noes 10", 5}, {"noes 009", 5}, {"noes -1", 5}, {"noes 1 1", 7}, {"noes 1x", 6}, {"then", 4},
            {"then time", 5}, {"then endx", 5}, {"then end x", 9}, {"grow 10", 5}, {"grow stay", 5}, {"way", 3},
            {"way any", 4}, {"way 4 any", 4}, {"way 0", 5}, {"way 0 0", 6}, {"way 0 any 1", 10},
            {"way 0 bar", 9}, {"way 0 bar 100", 10}, {"way 0 bar any", 10}, {"way 0 bar 5 5", 12},
            {"way 0 fall 5", 12}, {"way 0 fall 5 10", 13}, {"way 0 fall 100 1", 11}, {"way 0 fall 5 5 5", 15},
            {";", 0}, {"noes 1;", 7}, {"noes 1; ", 8}, {"noes 1;;noes 1", 7}, {";noes 1", 0}, {"noes 1,grow 1", 6},
            {"noes 1 grow 1", 7}, {"noes 1;rank", 7}, {"noes 1;\ngrow 1", 7}, {"noes\t1", 4}, {"time", 0},
            {"12", 0}, {"noes 1; order; x y", 13}, {"noes 99999999999", 5}};
        for (Object[] row : wrong) due("13 " + row[0], Texts.fault((String) row[0]), (Integer) row[1]);
    }

    private static void faultsAtEdges() {
        String twelve = "noes 1" + ";noes 1".repeat(11);
        due("13 twelve lines", Texts.fault(twelve), NONE);
        due("13 a sign too much", Texts.fault(twelve + ";"), 83);
        due("13 thirteen lines", Texts.fault(twelve + " ;noes 1"), 84);
        due("13 a word too much", Texts.fault(twelve + " noes"), 84);
        due("13 all 160 bytes", Texts.fault("noes 1" + " ".repeat(154)), NONE);
        due("13 at the end of 160", Texts.fault("noes" + " ".repeat(156)), 160);
        due("13 byte 0", Texts.fault("noes 1" + (char) 0), 6);
        due("13 byte 200", Texts.fault("" + (char) 200), 0);
        ThreeOffers x = new ThreeOffers();
        Texts.put(x, "noes 5; bad");
        due("13 told", x.fault(), 8);
        due("13 told again", x.fault(), 8);
        due("13 text stays", x.count(4), 11);
        due("13 rules stay", x.rule(1), 2);
    }

    private static void rules() {
        ThreeOffers x = new ThreeOffers();
        due("14 nothing", x.rules(), NOT);
        Texts.put(x, "noes 5; bad");
        due("14 a fault", x.rules(), NOT);
        due("14 text stays", x.count(4), 11);
        due("14 rules stay", x.rule(1), 2);
        x.erase();
        Texts.put(x, "order need; noes 5; then stay; grow 7; way 2 bar 40; noes 4");
        due("14 lines", x.rules(), 6);
        due("14 text is empty", x.count(4), 0);
        due("14 the last line", x.rule(1), 4);
        due("14 way", x.way(2, 1), 40);
        Texts.put(x, "way 1 fall 8 2; way 1 bar 9; way 0 bar 1; way 0 any");
        due("14 lines of way", x.rules(), 4);
        due("14 order as at first", x.rule(0), 0);
        due("14 noes as at first", x.rule(1), 2);
        due("14 then as at first", x.rule(2), 0);
        due("14 grow as at first", x.rule(3), 1);
        due("14 way 2 as at first", x.way(2, 0), 0);
        due("14 V of way 2 as at first", x.way(2, 1), 0);
        due("14 the last of way 1", x.way(1, 0), 1);
        due("14 its V", x.way(1, 1), 9);
        due("14 its N", x.way(1, 2), 0);
        due("14 the last of way 0", x.way(0, 0), 0);
        due("14 without V", x.way(0, 1), 0);
        due("14 again without a text", x.rules(), NOT);
    }

    private static void rule() {
        String[] orders = {"time", "need", "points"};
        String[] ends = {"end", "back", "stay"};
        for (int i = 0; i < 3; i++) {
            ThreeOffers x = Texts.ruled("order " + orders[i] + ";then " + ends[i] + ";grow " + i + ";noes " + 3 * i);
            due("15 order", x.rule(0), i);
            due("15 noes", x.rule(1), 3 * i);
            due("15 then", x.rule(2), i);
            due("15 grow", x.rule(3), i);
            due("15 what -1", x.rule(-1), OUTSIDE);
            due("15 what 4", x.rule(4), OUTSIDE);
        }
    }

    private static void way() {
        ThreeOffers x = Texts.ruled("way 0 any; way 1 bar 99; way 3 fall 98 9");
        int[][] ways = {{0, 0, 0}, {1, 99, 0}, {0, 0, 0}, {2, 98, 9}};
        for (int sort = 0; sort < 4; sort++) {
            for (int what = 0; what < 3; what++) due("16 way", x.way(sort, what), ways[sort][what]);
        }
        due("16 sort -1", x.way(-1, 0), UNKNOWN);
        due("16 sort 4", x.way(4, 3), UNKNOWN);
        due("16 what -1", x.way(0, -1), OUTSIDE);
        due("16 what 3", x.way(0, 3), OUTSIDE);
    }

    private static void would() {
        ThreeOffers x = Texts.ruled("noes 1; way 0 bar 9");
        x.need(0, 2);
        for (int i = 0; i < 11; i++) x.join(0);
        x.joining(1);
        x.coming(0);
        x.coming(-1);
        x.run(1);
        due("17 n 0", x.would(0, 0), OUTSIDE);
        due("17 n 61", x.would(61, 0), OUTSIDE);
        due("17 what -1", x.would(1, -1), OUTSIDE);
        due("17 what 5", x.would(1, 5), OUTSIDE);
        due("17 cost of a week", x.would(1, 0), 23);
        due("17 one away", x.would(1, 4), 1);
        due("17 none gone", x.would(1, 3), 0);
        due("17 none housed", x.would(1, 1), 0);
        due("17 none empty", x.would(1, 2), 0);
        due("17 cost of two weeks", x.would(2, 0), 24);
        due("17 eleven gone", x.would(2, 3), 11);
        due("17 one housed", x.would(2, 1), 1);
        due("17 empty in 60", x.would(60, 2), 0);
        due("17 nothing changed", x.count(0), 1);
        due("17 nothing changed", x.count(1), 12);
        due("17 nothing changed", x.count(6), 12);
        due("17 nothing changed", x.of(0, 3), 0);
        due("17 nothing changed", x.of(0, 5), 22);
        due("17 nothing changed", x.empty(), 1);
        due("17 nothing changed", x.person(0, 4), 1);
        ThreeOffers falling = Texts.ruled("way 0 fall 20 7; noes 9");
        falling.worth(0, 0, 6);
        falling.coming(0);
        falling.join(0);
        falling.run(1);
        due("17 from now on: no, yes, empty", falling.would(3, 1), 1);
        due("17 two empty", falling.would(3, 2), 2);
        due("17 two empty again", falling.would(3, 2), 2);
        due("17 a week is too soon", falling.would(1, 1), 0);
    }

    private static void gain() {
        ThreeOffers x = new ThreeOffers();
        x.worth(1, 3, 90);
        x.need(1, 7);
        x.need(2, 9);
        x.join(2);
        x.join(1);
        x.join(1);
        x.coming(3);
        x.run(1);
        due("18 one week", x.gain(1, 1), 90 - 7);
        due("18 two weeks", x.gain(1, 2), 180 - 7);
        due("18 sixty", x.gain(1, 60), 180 - 7);
        due("18 who is not there", x.gain(2, 60), 0);
        due("18 n 0", x.gain(1, 0), Integer.MIN_VALUE);
        due("18 n 61", x.gain(1, 61), Integer.MIN_VALUE);
        due("18 sort -1", x.gain(-1, 1), Integer.MIN_VALUE);
        due("18 sort 4", x.gain(4, 1), Integer.MIN_VALUE);
        due("18 nothing changed", x.count(1), 2);
        ThreeOffers cost = new ThreeOffers();
        cost.need(0, 9);
        cost.join(0);
        due("18 below none", cost.gain(0, 60), -540);
    }

    private static void best() {
        ThreeOffers x = new ThreeOffers();
        due("19 nobody: the least number", x.best(60, 0), 0);
        due("19 nobody costs", x.best(60, 1), 0);
        due("19 n 0", x.best(0, 0), OUTSIDE);
        due("19 n 61", x.best(61, 0), OUTSIDE);
        due("19 what -1", x.best(1, -1), OUTSIDE);
        due("19 what 2", x.best(1, 2), OUTSIDE);
        x.need(1, 9);
        x.join(0);
        x.join(1);
        x.coming(0);
        due("19 the needy first", x.best(1, 0), 12);
        due("19 cost", x.best(1, 1), 1);
        Texts.put(x, "noes 9; then stay; order points; way 0 bar 1");
        x.rules();
        due("19 all else as told: one no ends", x.best(1, 0), 0);
        due("19 none costs", x.best(1, 1), 0);
        due("19 the rules stay", x.rule(1), 9);
        due("19 the rules stay", x.rule(0), 2);
        due("19 the rules stay", x.rule(2), 2);
        due("19 nothing changed", x.count(1), 2);
    }

    private static void rest() {
        ThreeOffers x = new ThreeOffers();
        due("20 n 0", x.rest(0, -1), OUTSIDE);
        due("20 n 41", x.rest(41, -1), OUTSIDE);
        due("20 i -2", x.rest(1, -2), OUTSIDE);
        due("20 nobody: all", x.rest(40, -1), 625);
        due("20 the last", x.rest(40, 624), 624);
        due("20 not so many", x.rest(40, 625), NONE);
        due("20 by far", x.rest(40, Integer.MAX_VALUE), NONE);
        // One of sort 1 waits for a house of kind 1: it must let that of kind 0 go by.
        x.worth(1, 0, 1);
        x.worth(1, 1, 50);
        x.join(1);
        x.coming(0);
        x.coming(1);
        due("20 bar at kind 1", x.rest(2, -1), 125);
        due("20 figure of sort 1", x.rest(2, 0), 10);
        due("20 the next figure of sort 0", x.rest(2, 1), 11);
        due("20 the fifth", x.rest(2, 5), 10 + 25);
        due("20 the last", x.rest(2, 124), 624 - 10);
        due("20 one week: to take the worse or pay", x.rest(1, -1), 4 * 125);
        due("20 rules stay", x.way(1, 0), 0);
        due("20 nothing changed", x.count(1), 1);
    }

    /** Settings that were found once must be found anew after whatever changes them. */
    private static void restForgets() {
        for (int change = 0; change < 7; change++) {
            ThreeOffers asked = begun(change);
            int before = asked.rest(3, -1);
            alter(asked, change);
            ThreeOffers notAsked = begun(change);
            alter(notAsked, change);
            due("20 after change " + change, asked.rest(3, -1), notAsked.rest(3, -1));
            CHECK.holds("20 by change " + change, asked.rest(3, -1) != before);
        }
    }

    private static ThreeOffers begun(int change) {
        ThreeOffers x = new ThreeOffers();
        x.worth(1, 0, 1);
        x.worth(1, 1, 9);
        x.worth(0, 0, 5);
        x.worth(0, 2, 7);
        x.coming(0);
        if (change != 2) x.coming(1);
        if (change != 4) x.join(1);
        return x;
    }

    private static void alter(ThreeOffers x, int change) {
        switch (change) {
            case 0: x.worth(1, 0, 9); break;
            case 1: x.need(1, 9); break;
            case 2: x.coming(1); break;
            case 3: x.joining(0); break;
            case 4: x.join(1); break;
            case 5: x.run(1); break;
            default: Texts.put(x, "noes 0"); x.rules(); break;
        }
    }

    private static void lot() {
        ThreeOffers x = new ThreeOffers();
        x.worth(0, 1, 9);
        x.worth(1, 1, 9);
        x.join(0);
        due("21 alone", x.lot(0, 1, 1, 1, 0), 1);
        due("21 alone", x.lot(0, 1, 1, 1, 1), 1);
        due("21 not that kind", x.lot(0, 1, 1, 0, 0), 0);
        due("21 of one", x.lot(0, 1, 1, 0, 1), 1);
        x.join(1);
        due("21 two for one", x.lot(1, 1, 1, -1, 0), 1);
        due("21 two for one", x.lot(1, 1, 1, -1, 1), 2);
        due("21 two for two, kind 1", x.lot(0, 1, 2, 1, 1), 2);
        due("21 two for two, kind 0", x.lot(0, 1, 2, 0, 1), 2);
        due("21 two for two, any", x.lot(0, 1, 2, -1, 1), 1);
        due("21 bits beyond n", x.lot(0, -3, 1, 1, 1), 2);
        due("21 the least kind of several", x.lot(0, 2 + 3 * 4, 2, 2, 1), 2);
        x.join(2);
        x.join(3);
        due("21 sort 2 takes kind 0 of 0 and 2", x.lot(2, 2, 2, 0, 0), 1);
        due("21 below", x.lot(2, 2, 2, 0, 1), 4);
        due("21 place -1", x.lot(-1, 0, 1, 0, 0), UNKNOWN);
        due("21 place 4", x.lot(4, 0, 1, 0, 0), UNKNOWN);
        due("21 kind -2", x.lot(0, 0, 1, -2, 0), UNKNOWN);
        due("21 kind 4", x.lot(0, 0, 0, 4, 0), UNKNOWN);
        due("21 n 0", x.lot(0, 0, 0, 0, 0), OUTSIDE);
        due("21 n 5", x.lot(0, 0, 5, 0, 0), OUTSIDE);
        due("21 part -1", x.lot(0, 0, 1, 0, -1), OUTSIDE);
        due("21 part 2", x.lot(0, 0, 1, 0, 2), OUTSIDE);
        for (int i = 0; i < 8; i++) x.join(0);
        due("21 six at most", x.lot(5, 0, 1, 0, 1), 6);
        due("21 not the seventh", x.lot(6, 0, 1, 0, 0), UNKNOWN);
        x.need(3, 9);
        Texts.put(x, "order need");
        x.rules();
        x.worth(3, 2, 5);
        due("21 the first in order", x.lot(0, 2, 2, 2, 0), 1);
        due("21 first or second to take", x.lot(0, 2, 2, 2, 1), 3);
        due("21 nothing changed", x.count(1), 12);
    }

    private static void holder() {
        ThreeOffers x = new ThreeOffers();
        due("22 sort -1", x.holder(-1, 0), UNKNOWN);
        due("22 sort 4", x.holder(4, 0), UNKNOWN);
        due("22 kind -1", x.holder(0, -1), UNKNOWN);
        due("22 kind 4", x.holder(0, 4), UNKNOWN);
        for (int i = 0; i < 8; i++) due("22 number", x.holder(i % 4, i / 2), i);
        due("22 full", x.holder(0, 0), FULL);
        due("22 unknown first", x.holder(0, 4), UNKNOWN);
        due("22 still", x.count(5), 8);
    }

    private static void swaps() {
        ThreeOffers x = new ThreeOffers();
        x.worth(0, 1, 9);
        x.worth(1, 2, 9);
        x.worth(2, 0, 9);
        x.holder(0, 0);
        x.holder(1, 1);
        due("23 the wished one is not there", x.swaps(1), 1);
        due("23 its wish is held", x.swaps(0), 0);
        x.holder(2, 2);
        due("23 ring of three", x.swaps(0), 1);
        due("23 ring of three", x.swaps(1), 2);
        due("23 ring of three", x.swaps(2), 0);
        x.holder(0, 1);
        due("23 its own of several", x.swaps(3), 3);
        x.holder(0, 3);
        due("23 left over", x.swaps(4), 4);
        x.holder(3, 3);
        x.worth(3, 2, 1);
        x.worth(3, 3, 0);
        due("23 the wish is gone by then", x.swaps(5), 5);
        due("23 holder -1", x.swaps(-1), UNKNOWN);
        due("23 holder 6", x.swaps(6), UNKNOWN);
        ThreeOffers least = new ThreeOffers();
        least.worth(0, 1, 5);
        least.worth(1, 0, 5);
        least.holder(0, 0);
        least.holder(1, 1);
        least.holder(1, 1);
        least.holder(0, 0);
        due("23 the least of several", least.swaps(0), 1);
        due("23 and back", least.swaps(1), 0);
        due("23 then the others", least.swaps(2), 3);
        due("23 then the others", least.swaps(3), 2);
        due("23 nobody has moved", least.swaps(0), 1);
    }

    private static void rings() {
        ThreeOffers x = new ThreeOffers();
        x.holder(0, 0);
        x.holder(1, 1);
        due("24 of one each", x.rings(), 0);
        x.worth(0, 1, 5);
        x.worth(1, 0, 5);
        due("24 of two", x.rings(), 1);
        x.holder(1, 1);
        x.holder(0, 0);
        due("24 two of two", x.rings(), 2);
        x.holder(3, 3);
        due("24 one alone beside", x.rings(), 2);
        due("24 again", x.rings(), 2);
    }

    private static void chain() {
        ThreeOffers x = new ThreeOffers();
        due("25 nobody", x.chain(3, -1), 0);
        due("25 nobody", x.chain(3, 0), NONE);
        due("25 kind -1", x.chain(-1, -1), UNKNOWN);
        due("25 kind 4", x.chain(4, -2), UNKNOWN);
        due("25 i -2", x.chain(0, -2), OUTSIDE);
        x.worth(0, 0, 1);
        x.worth(0, 1, 2);
        x.worth(0, 2, 3);
        x.worth(0, 3, 4);
        x.holder(0, 0);
        x.holder(0, 2);
        x.holder(0, 1);
        x.holder(0, 1);
        due("25 longest", x.chain(3, -1), 3);
        due("25 not the first holder first", x.chain(3, 0), 1);
        due("25 the first of several", x.chain(3, 1), 2);
        due("25 last", x.chain(3, 2), 0);
        due("25 not so many", x.chain(3, 3), NONE);
        due("25 by far", x.chain(3, Integer.MAX_VALUE), NONE);
        due("25 more worth, not as much", x.chain(0, -1), 0);
        due("25 kind 1", x.chain(1, -1), 1);
        due("25 nobody has moved", x.chain(3, -1), 3);
        // All but one's own kind are worth something: everyone can move, twice two of each.
        ThreeOffers all = new ThreeOffers();
        for (int sort = 0; sort < 4; sort++) {
            for (int kind = 0; kind < 4; kind++) all.worth(sort, kind, sort == kind ? 0 : 1);
        }
        for (int i = 0; i < 8; i++) all.holder(i / 2, i / 2);
        due("25 all eight", all.chain(0, -1), 8);
        int[] first = {2, 0, 3, 1, 4, 6, 5, 7};
        for (int i = 0; i < 8; i++) due("25 the first of all", all.chain(0, i), first[i]);
        due("25 each once", all.chain(0, 8), NONE);
    }

    private static void mean() {
        ThreeOffers x = new ThreeOffers();
        due("26 half", x.mean(5, 5, 1, 0), 1);
        due("26 half", x.mean(5, 5, 1, 1), 2);
        due("26 as often each", x.mean(9, 9, 6, 0), 3);
        due("26 as often each", x.mean(9, 9, 5, 1), 2);
        // One longer with 2 * 6, one shorter with 4 * 8 of 100: weights 64, 24, 9 (times 16).
        due("26 above", x.mean(2, 4, 2, 0), 42);
        due("26 below", x.mean(2, 4, 2, 1), 97);
        due("26 p 0", x.mean(0, 5, 1, 0), OUTSIDE);
        due("26 p 10", x.mean(10, 5, 1, 0), OUTSIDE);
        due("26 q 0", x.mean(5, 0, 1, 0), OUTSIDE);
        due("26 q 10", x.mean(5, 10, 1, 0), OUTSIDE);
        due("26 most 0", x.mean(5, 5, 0, 0), OUTSIDE);
        due("26 most 7", x.mean(5, 5, 7, 0), OUTSIDE);
        due("26 part -1", x.mean(5, 5, 1, -1), OUTSIDE);
        due("26 part 2", x.mean(5, 5, 1, 2), OUTSIDE);
    }

    private static void count() {
        ThreeOffers x = new ThreeOffers();
        x.run(7);
        for (int i = 0; i < 6; i++) x.join(0);
        for (int i = 0; i < 5; i++) x.coming(0);
        for (int i = 0; i < 4; i++) x.joining(-1);
        x.write(0, 3);
        x.holder(0, 0);
        x.holder(0, 0);
        x.run(1);
        int[] counts = {8, 5, 5, 4, 3, 2, 6};
        for (int what = 0; what <= 6; what++) due("27 count " + what, x.count(what), counts[what]);
        due("27 what -1", x.count(-1), OUTSIDE);
        due("27 what 7", x.count(7), OUTSIDE);
    }
}
