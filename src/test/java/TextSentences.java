/** Boundaries of the text and of the rules that it tells; promises 11 to 16. */
final class TextSentences {
    private static final int NONE = -1, UNKNOWN = -2, OUTSIDE = -3, NOT = -4, FULL = -5;
    private static final int LEAST = Integer.MIN_VALUE, GREATEST = Integer.MAX_VALUE;
    private static final String[] FORMS = {"order time", "order need", "order points", "noes 4", "then end",
        "then back", "then stay", "grow 4", "way 2 any", "way 2 bar 44", "way 2 fall 44 4"};

    private TextSentences() {
    }

    private static void fault(Check check, String text, int want) {
        check.due("fault of <" + text + ">", Texts.fault(text), want);
    }

    private static String twelveLines() {
        return "noes 1" + ";noes 1".repeat(11);
    }

    @Holds(promise = 11, says = "THE TEXT is a row of bytes, 160 at most:")
    static void textBounds(Check check) {
        ThreeOffers x = new ThreeOffers();
        for (int i = 0; i < 19; i++) x.write(Texts.bytes("        "), 8);
        check.due("160 bytes", x.write(Texts.bytes("  noes 7"), 8), 160);
        check.due("one more", x.write(Texts.bytes(" "), 1), FULL);
        check.due("all are read", x.rules(), 1);
        check.due("to the last one", x.rule(1), 7);
        check.due("room again", x.write(0, 8), 8);
        fault(check, " ".repeat(160), 160);
        fault(check, "noes 1" + " ".repeat(153) + "x", 159);
    }

    @Holds(promise = 11, says = "n (1 .. 8) bytes more of THE TEXT, byte i being bytes >> 8 i & 255: how many it has.")
    static void bytesOfCall(Check check) {
        ThreeOffers x = new ThreeOffers();
        check.due("n 0", x.write(0, 0), OUTSIDE);
        check.due("n 9", x.write(0, 9), OUTSIDE);
        check.due("n -1", x.write(0, -1), OUTSIDE);
        check.due("the greatest n", x.write(0, GREATEST), OUTSIDE);
        check.due("the least n", x.write(0, LEAST), OUTSIDE);
        check.due("n 8", x.write(Texts.bytes("way 3 ba"), 8), 8);
        check.due("n 1, the lowest byte", x.write(Texts.bytes("r5432109"), 1), 9);
        check.due("n 3", x.write(Texts.bytes(" 98"), 3), 12);
        check.due("read", x.rules(), 1);
        check.due("way", x.way(3, 0), 1);
        check.due("V", x.way(3, 1), 98);
        // The highest byte makes the long a negative one: that bit fills no byte but its own.
        x.write(Texts.bytes("noes 1;" + (char) 255), 8);
        check.due("the highest byte is 255", x.fault(), 7);
        x.erase();
        x.write(Texts.bytes("noes 1 " + (char) 160), 8);
        check.due("the highest byte is 160, not 32", x.fault(), 7);
    }

    @Holds(promise = 11, says = "OUTSIDE; FULL.")
    static void writeRefused(Check check) {
        ThreeOffers x = new ThreeOffers();
        for (int i = 0; i < 19; i++) x.write(Texts.bytes("        "), 8);
        x.write(Texts.bytes("noes"), 4);
        check.due("five where four have room", x.write(Texts.bytes(" 5   "), 5), FULL);
        check.due("none of the five is there", x.count(4), 156);
        check.due("four", x.write(Texts.bytes(" 6  "), 4), 160);
        check.due("outside and full", x.write(0, 9), OUTSIDE);
        check.due("outside and full", x.write(0, 0), OUTSIDE);
        check.due("full", x.write(0, 8), FULL);
        check.due("full", x.write(0, 1), FULL);
        check.due("read", x.rules(), 1);
        check.due("noes", x.rule(1), 6);
    }

    @Holds(promise = 12, says = "THE TEXT is empty: how many bytes it had.")
    static void erased(Check check) {
        ThreeOffers x = new ThreeOffers();
        check.due("an empty one", x.erase(), 0);
        for (int i = 0; i < 20; i++) x.write(Texts.bytes("noes 5;;"), 8);
        check.due("a full one", x.erase(), 160);
        check.due("it is empty", x.count(4), 0);
        check.due("its fault", x.fault(), 0);
        check.due("an empty one again", x.erase(), 0);
        Texts.put(x, "noe");
        check.due("nothing of the old one is read", x.fault(), 0);
        check.due("a short one", x.erase(), 3);
        check.due("the rules stay", x.rule(1), 2);
    }

    @Holds(promise = {13, 14}, says = "LINES with ; (59) between, 12 at most;")
    static void linesBounds(Check check) {
        fault(check, "noes 1", NONE);
        fault(check, "noes 1;noes 1", NONE);
        fault(check, twelveLines(), NONE);
        fault(check, twelveLines() + ";noes 1", 83);
        fault(check, twelveLines() + ";", 83);
        fault(check, twelveLines() + "   ", NONE);
        fault(check, "noes 1" + ";noes 1".repeat(10) + ";", 77);
        fault(check, ";noes 1", 0);
        fault(check, "noes 1;;noes 1", 7);
        fault(check, "noes 1; ;noes 1", 8);
        fault(check, "noes 1 noes 1", 7);
        fault(check, "noes 1" + (char) 58 + "noes 1", 6);
        fault(check, "noes 1" + (char) 60 + "noes 1", 6);
        ThreeOffers x = new ThreeOffers();
        Texts.put(x, twelveLines());
        check.due("all twelve", x.rules(), 12);
    }

    @Holds(promise = 13, says = "each is one of: order time. order need. order points. noes N. then end. then back. then"
        + " stay. grow N. way S any. way S bar V. way S fall V N.")
    static void forms(Check check) {
        for (String form : FORMS) {
            fault(check, form, NONE);
            fault(check, form + " 1", form.length() + 1);
            fault(check, form + " any", form.length() + 1);
            fault(check, form.substring(0, form.lastIndexOf(' ')), form.lastIndexOf(' '));
            String first = form.substring(0, form.indexOf(' '));
            fault(check, "x" + form, 0);
            fault(check, first + " x", first.length() + 1);
            fault(check, first.substring(0, first.length() - 1) + form.substring(first.length()), 0);
        }
        fault(check, "order end", 6);
        fault(check, "then time", 5);
        fault(check, "noes any", 5);
        fault(check, "grow fall", 5);
        fault(check, "order 1", 6);
        fault(check, "then 1", 5);
        fault(check, "way any", 4);
        fault(check, "way 1 2", 6);
        fault(check, "way 1 time", 6);
        fault(check, "way 1 bar any", 10);
        fault(check, "way 1 fall 9 any", 13);
    }

    @Holds(promise = 13, says = "(As written here, without points;")
    static void withoutPoints(Check check) {
        for (String form : FORMS) fault(check, form + ".", form.length());
        fault(check, ".", 0);
    }

    @Holds(promise = 13, says = "N 0 .. 9,")
    static void boundsOfN(Check check) {
        for (String before : new String[] {"noes ", "grow ", "way 0 fall 5 "}) {
            fault(check, before + "0", NONE);
            fault(check, before + "9", NONE);
            fault(check, before + "10", before.length());
            fault(check, before + "99", before.length());
            fault(check, before + "-1", before.length());
        }
        ThreeOffers least = Texts.ruled("noes 0;grow 0;way 0 fall 5 0");
        ThreeOffers most = Texts.ruled("noes 9;grow 9;way 0 fall 5 9");
        check.due("noes 0", least.rule(1), 0);
        check.due("grow 0", least.rule(3), 0);
        check.due("fall by 0", least.way(0, 2), 0);
        check.due("noes 9", most.rule(1), 9);
        check.due("grow 9", most.rule(3), 9);
        check.due("fall by 9", most.way(0, 2), 9);
    }

    @Holds(promise = 13, says = "S 0 .. 3,")
    static void boundsOfS(Check check) {
        for (String behind : new String[] {" any", " bar 5", " fall 5 5"}) {
            fault(check, "way 0" + behind, NONE);
            fault(check, "way 3" + behind, NONE);
            fault(check, "way 4" + behind, 4);
            fault(check, "way 10" + behind, 4);
            fault(check, "way 99" + behind, 4);
        }
        ThreeOffers x = Texts.ruled("way 0 bar 6;way 3 bar 7");
        check.due("of sort 0", x.way(0, 1), 6);
        check.due("of sort 3", x.way(3, 1), 7);
    }

    @Holds(promise = 13, says = "V 0 .. 99;")
    static void boundsOfV(Check check) {
        fault(check, "way 0 bar 0", NONE);
        fault(check, "way 0 bar 99", NONE);
        fault(check, "way 0 bar 100", 10);
        fault(check, "way 0 fall 0 1", NONE);
        fault(check, "way 0 fall 99 1", NONE);
        fault(check, "way 0 fall 100 1", 11);
        ThreeOffers x = Texts.ruled("way 0 bar 0;way 1 bar 99;way 2 fall 0 1;way 3 fall 99 1");
        int[] values = {0, 99, 0, 99};
        for (int sort = 0; sort <= 3; sort++) check.due("V of sort " + sort, x.way(sort, 1), values[sort]);
    }

    @Holds(promise = 13, says = "small letters a .. z,")
    static void letters(Check check) {
        fault(check, "then enda", 5);
        fault(check, "then endz", 5);
        fault(check, "then end" + (char) ('a' - 1), 8);
        fault(check, "then end" + (char) ('z' + 1), 8);
        fault(check, "Then end", 0);
        fault(check, "theN end", 0);
        fault(check, "then End", 5);
        fault(check, "then enD", 5);
        fault(check, "then endZ", 8);
    }

    @Holds(promise = 13, says = "numbers of 1 or 2 digits,")
    static void digits(Check check) {
        fault(check, "noes 7", NONE);
        fault(check, "noes 07", NONE);
        fault(check, "noes 007", 5);
        fault(check, "way 03 any", NONE);
        fault(check, "way 003 any", 4);
        fault(check, "way 0 bar 00", NONE);
        fault(check, "way 0 bar 000", 10);
        fault(check, "noes 1" + (char) ('0' - 1), 6);
        fault(check, "noes 1" + (char) ('9' + 1), 6);
        fault(check, "noes 00" + (char) ('9' + 1), 7);
        // Values that wrap around to 0 and to 5.
        fault(check, "noes 4294967296", 5);
        fault(check, "noes 18446744073709551621", 5);
        check.due("07 is 7", Texts.ruled("noes 07").rule(1), 7);
        check.due("10 is ten", Texts.ruled("way 0 bar 10").way(0, 1), 10);
    }

    @Holds(promise = 13, says = "blanks (32) between.)")
    static void blanks(Check check) {
        fault(check, "   noes    1   ;   way   0   fall   9   9   ", NONE);
        for (int other : new int[] {0, 9, 10, 13, 31, 33, 95, 127, 128, 160, 255}) {
            fault(check, "noes" + (char) other + "1", 4);
            fault(check, (char) other + "noes 1", 0);
            fault(check, "noes 1" + (char) other, 6);
        }
        fault(check, "order t ime", 6);
        fault(check, "way 0 bar 9 9", 12);
    }

    @Holds(promise = 13, says = "A FAULT is at the first TOKEN (a row of small letters, a row of digits, any other byte)"
        + " that cannot stand there,")
    static void firstToken(Check check) {
        for (int sign = 0; sign < 256; sign++) fault(check, "" + (char) sign, sign == 32 ? 1 : 0);
        fault(check, "noes x;grow x", 5);
        fault(check, "noes 1;grow x", 12);
        fault(check, "noes 1!!", 6);
        fault(check, "noes 1 !!", 7);
        fault(check, "noes 1;;;", 7);
        fault(check, "noesgrow 1", 0);
        fault(check, "order timetime", 6);
        fault(check, "way 0 bar 123", 10);
        fault(check, "way 0 any bar", 10);
        fault(check, "noes 1a", 6);
        fault(check, "then end1", 8);
        fault(check, "then1end", 4);
    }

    @Holds(promise = 13, says = "a number out of its bounds also,")
    static void numberOutOfBounds(Check check) {
        fault(check, "noes   10   ", 7);
        fault(check, "noes 1;way 4 any", 11);
        fault(check, "way 4 nothing", 4);
        fault(check, "way 3 fall 9 10;order", 13);
        fault(check, "grow 10;noes 10", 5);
    }

    @Holds(promise = 13, says = "or at the end, if it comes too soon.")
    static void endTooSoon(Check check) {
        String[] cut = {"", " ", "order", "order ", "noes", "then  ", "grow", "way", "way 0", "way 0 ", "way 0 bar",
            "way 0 fall", "way 0 fall 5", "way 0 fall 5 ", "noes 1;", "noes 1;   ", "noes 1;order", "noes 1;way 3 bar "};
        for (String text : cut) fault(check, text, text.length());
        String full = "noes 1;" + " ".repeat(148) + "order";
        check.due("a text of all bytes", full.length(), 160);
        fault(check, full, 160);
    }

    @Holds(promise = 13, says = "The place of the FAULT (the byte with which the TOKEN begins, or the length); NONE.")
    static void placeOfFault(Check check) {
        ThreeOffers x = new ThreeOffers();
        check.due("of an empty text: the length", x.fault(), 0);
        x.write(Texts.bytes("noes"), 4);
        check.due("the length", x.fault(), 4);
        x.write(Texts.bytes("  1"), 3);
        check.due("none", x.fault(), NONE);
        x.write(Texts.bytes("0"), 1);
        check.due("the number grew: where it begins", x.fault(), 6);
        check.due("asked again", x.fault(), 6);
        check.due("the text stays", x.count(4), 8);
        check.due("the rules stay", x.rule(1), 2);
    }

    @Holds(promise = 14, says = "Without FAULT it may be THE RULES:")
    static void withoutFault(Check check) {
        ThreeOffers x = new ThreeOffers();
        Texts.put(x, "noes 5;grow 7");
        check.due("no fault", x.fault(), NONE);
        check.due("it may be, but is not yet", x.rule(1), 2);
        check.due("now it is", x.rules(), 2);
        check.due("noes", x.rule(1), 5);
        Texts.put(x, "noes 3;grow 10");
        check.due("with a fault in the last line", x.rules(), NOT);
        check.due("no line of it holds", x.rule(1), 5);
        check.due("the old ones do", x.rule(3), 7);
    }

    @Holds(promise = 14, says = "of each word (of way: of each SORT) the last LINE;")
    static void lastLine(Check check) {
        ThreeOffers x = Texts.ruled("noes 5;noes 1;order need;order time;then back;then stay;grow 3;grow 0");
        int[] rules = {0, 1, 2, 0};
        for (int what = 0; what <= 3; what++) check.due("rule " + what, x.rule(what), rules[what]);
        x = Texts.ruled("way 0 fall 9 8;way 1 bar 7;way 0 bar 6;way 1 any;way 2 bar 5;way 3 any;way 3 fall 4 3");
        int[][] ways = {{1, 6, 0}, {0, 0, 0}, {1, 5, 0}, {2, 4, 3}};
        for (int sort = 0; sort <= 3; sort++) {
            for (int what = 0; what <= 2; what++) {
                check.due("way of " + sort + ", " + what, x.way(sort, what), ways[sort][what]);
            }
        }
        check.due("the twelfth of twelve", Texts.ruled("grow 1;".repeat(11) + "grow 8").rule(3), 8);
    }

    @Holds(promise = {14, 15, 16}, says = "without one, and at first: order time, noes 2, then end, grow 1, way any of"
        + " each.")
    static void withoutLine(Check check) {
        ThreeOffers x = new ThreeOffers();
        asAtFirst(check, x);
        Texts.put(x, "order need;noes 7;then stay;grow 8;way 0 bar 1;way 1 fall 2 3;way 2 bar 4;way 3 fall 5 6");
        check.due("all told", x.rules(), 8);
        Texts.put(x, "noes 2");
        check.due("one told", x.rules(), 1);
        asAtFirst(check, x);
    }

    private static void asAtFirst(Check check, ThreeOffers x) {
        int[] rules = {0, 2, 0, 1};
        for (int what = 0; what <= 3; what++) check.due("rule " + what, x.rule(what), rules[what]);
        for (int sort = 0; sort <= 3; sort++) {
            for (int what = 0; what <= 2; what++) check.due("way of " + sort + ", " + what, x.way(sort, what), 0);
        }
    }

    @Holds(promise = 14, says = "THE TEXT becomes THE RULES, and is empty then: how many LINES.")
    static void textBecomesRules(Check check) {
        ThreeOffers x = new ThreeOffers();
        Texts.put(x, "noes 4");
        check.due("one line", x.rules(), 1);
        check.due("the text is empty", x.count(4), 0);
        check.due("the rule holds", x.rule(1), 4);
        Texts.put(x, twelveLines());
        check.due("twelve lines", x.rules(), 12);
        check.due("the text is empty", x.erase(), 0);
        check.due("what is written begins a new one", x.write(Texts.bytes("grow 3"), 6), 6);
        check.due("one line", x.rules(), 1);
    }

    @Holds(promise = 14, says = "NOT: it has a FAULT.")
    static void rulesRefused(Check check) {
        ThreeOffers x = Texts.ruled("noes 4");
        check.due("an empty text", x.rules(), NOT);
        Texts.put(x, twelveLines() + ";");
        check.due("a sign too much", x.rules(), NOT);
        check.due("the text stays", x.count(4), 84);
        check.due("with its fault", x.fault(), 83);
        check.due("the rules stay", x.rule(1), 4);
    }

    @Holds(promise = 15, says = "Of THE RULES: order (what 0; 0 time, 1 need, 2 points), noes (1), then (2; 0 end, 1"
        + " back, 2 stay), grow (3).")
    static void rulesTold(Check check) {
        String[] orders = {"time", "need", "points"};
        String[] ends = {"end", "back", "stay"};
        for (int i = 0; i <= 2; i++) {
            ThreeOffers x = Texts.ruled("order " + orders[i] + ";noes " + (5 + i) + ";then " + ends[2 - i] + ";grow " + i);
            check.due("order " + orders[i], x.rule(0), i);
            check.due("noes", x.rule(1), 5 + i);
            check.due("then " + ends[2 - i], x.rule(2), 2 - i);
            check.due("grow", x.rule(3), i);
        }
    }

    @Holds(promise = 15, says = "OUTSIDE.")
    static void ruleRefused(Check check) {
        ThreeOffers x = new ThreeOffers();
        check.due("what -1", x.rule(-1), OUTSIDE);
        check.due("what 4", x.rule(4), OUTSIDE);
        check.due("the greatest what", x.rule(GREATEST), OUTSIDE);
        check.due("the least what", x.rule(LEAST), OUTSIDE);
    }

    @Holds(promise = 16, says = "The way of a SORT: 0 any, 1 bar, 2 fall (what 0), V (1), N (2; 0 each without).")
    static void waysTold(Check check) {
        ThreeOffers x = Texts.ruled("way 0 any;way 1 bar 99;way 3 fall 98 9");
        int[][] ways = {{0, 0, 0}, {1, 99, 0}, {0, 0, 0}, {2, 98, 9}};
        for (int sort = 0; sort <= 3; sort++) {
            for (int what = 0; what <= 2; what++) {
                check.due("way of " + sort + ", " + what, x.way(sort, what), ways[sort][what]);
            }
        }
    }

    @Holds(promise = 16, says = "UNKNOWN; OUTSIDE.")
    static void wayRefused(Check check) {
        ThreeOffers x = new ThreeOffers();
        check.due("what -1", x.way(0, -1), OUTSIDE);
        check.due("what 3", x.way(3, 3), OUTSIDE);
        check.due("the greatest what", x.way(0, GREATEST), OUTSIDE);
        check.due("the least what", x.way(0, LEAST), OUTSIDE);
        check.due("both wrong", x.way(4, 3), UNKNOWN);
        check.due("both wrong", x.way(-1, -1), UNKNOWN);
    }
}
