import java.util.Random;

/** Runs of calls drawn at random (the same ones each time), answered by the class and by the model. */
public final class ModelTest {
    private static final int RUNS = 500, CALLS = 512;
    private static final String[] WORDS = {"order", "time", "need", "points", "noes", "then", "end", "back", "stay",
        "grow", "way", "any", "bar", "fall", "0", "1", "2", "3", "9", "10", "40", "99", "100", ";", ";", ":", "x"};

    private final Check check;
    private final Random random;
    private final ThreeOffers x = new ThreeOffers();
    private final Model model = new Model();
    /** Some runs have few wrong numbers, some few worths, so that ties come up. */
    private final int wrongOf;
    private final int mostWorth;
    private final String name;
    private int calls = 0;

    private ModelTest(Check check, int seed) {
        this.check = check;
        random = new Random(seed);
        wrongOf = seed % 3 == 0 ? 8 : 60;
        mostWorth = new int[] {99, 3, 1, 30}[seed % 4];
        name = "run " + seed + ": ";
    }

    public static void main(String[] args) {
        int runs = args.length > 0 ? Integer.parseInt(args[0]) : RUNS;
        Check check = new Check();
        for (int seed = 0; seed < runs && !check.failed(); seed++) new ModelTest(check, seed).run();
        allMeans(check);
        check.end();
    }

    private static void allMeans(Check check) {
        ThreeOffers x = new ThreeOffers();
        Model model = new Model();
        for (int i = 0; i < 11 * 11 * 8 * 2; i++) {
            int part = i % 2, most = i / 2 % 8, q = i / 16 % 11, p = i / 176;
            check.due("mean " + p + " " + q + " " + most, x.mean(p, q, most, part), model.mean(p, q, most, part));
        }
    }

    private void run() {
        for (int sort = 0; sort < 4; sort++) {
            for (int kind = 0; kind < 4; kind++) {
                int v = random.nextInt(mostWorth + 1);
                due("worth", x.worth(sort, kind, v), model.worth(sort, kind, v));
            }
        }
        while (calls < CALLS && !check.failed()) call();
    }

    private void due(String call, long got, long want) {
        // An object's answers are free after its last promised call.
        calls++;
        if (calls <= CALLS) check.due(name + call, got, want);
    }

    /** A number within bounds, or, at times, one beside them. */
    private int pick(int least, int most) {
        if (random.nextInt(wrongOf) == 0) {
            int[] beside = {least - 1, most + 1, Integer.MIN_VALUE, Integer.MAX_VALUE, -1, 0};
            return beside[random.nextInt(beside.length)];
        }
        return least + random.nextInt(most - least + 1);
    }

    private void call() {
        int which = random.nextInt(100);
        if (which < 30) town(which);
        else if (which < 45) texts();
        else if (which < 60) told();
        else if (which < 75) ahead(which);
        else if (which < 98) lots(which);
        else many();
    }

    private void town(int which) {
        int a = pick(0, 3);
        if (which < 4) {
            int kind = pick(0, 3), v = pick(0, mostWorth);
            due("worth " + a + " " + kind + " " + v, x.worth(a, kind, v), model.worth(a, kind, v));
        } else if (which < 7) {
            int v = pick(1, 9);
            due("need " + a + " " + v, x.need(a, v), model.need(a, v));
        } else if (which < 11) {
            int kind = pick(-1, 3);
            due("coming " + kind, x.coming(kind), model.coming(kind));
        } else if (which < 15) {
            int sort = pick(-1, 3);
            due("joining " + sort, x.joining(sort), model.joining(sort));
        } else if (which < 22) {
            due("join " + a, x.join(a), model.join(a));
        } else {
            int n = random.nextInt(4) == 0 ? pick(1, 100) : pick(1, 4);
            due("run " + n, x.run(n), model.run(n));
        }
    }

    private void texts() {
        int which = random.nextInt(10);
        if (which < 2) {
            due("erase", x.erase(), model.erase());
        } else if (which < 4) {
            long bytes = random.nextLong();
            int n = pick(1, 8);
            due("write " + bytes + " " + n, x.write(bytes, n), model.write(bytes, n));
        } else {
            String text = which < 8 ? rightText() : anyText();
            if (which != 5) due("erase", x.erase(), model.erase());
            for (int from = 0; from < text.length(); from += 8) {
                String part = text.substring(from, Math.min(from + 8, text.length()));
                long bytes = Texts.bytes(part);
                due("write " + part, x.write(bytes, part.length()), model.write(bytes, part.length()));
            }
            due("fault", x.fault(), model.fault());
            if (which != 9) due("rules", x.rules(), model.rules());
        }
    }

    private String rightText() {
        StringBuilder text = new StringBuilder();
        int lines = 1 + random.nextInt(random.nextInt(5) == 0 ? 14 : 6);
        for (int i = 0; i < lines; i++) {
            if (i > 0) text.append(random.nextBoolean() ? ";" : " ; ");
            int n = random.nextInt(10);
            int sort = random.nextInt(4);
            int v = random.nextInt(mostWorth + 1);
            String[] lineForms = {"order " + WORDS[1 + n % 3], "noes " + n % 4, "then " + WORDS[6 + n % 3], "grow " + n,
                "way " + sort + " any", "way " + sort + " bar " + v, "way " + sort + " fall " + v + " " + n};
            text.append(lineForms[random.nextInt(lineForms.length)]);
        }
        return text.toString();
    }

    /** A right text with one place spoilt, or words in any row. */
    private String anyText() {
        StringBuilder text = new StringBuilder(rightText());
        if (random.nextBoolean()) {
            int at = random.nextInt(text.length());
            switch (random.nextInt(4)) {
                case 0: text.setCharAt(at, (char) random.nextInt(256)); break;
                case 1: text.deleteCharAt(at); break;
                case 2: text.insert(at, WORDS[random.nextInt(WORDS.length)]); break;
                default: text.setLength(at); break;
            }
            return text.toString();
        }
        text.setLength(0);
        for (int i = random.nextInt(6); i >= 0; i--) {
            text.append(WORDS[random.nextInt(WORDS.length)]).append(" ".repeat(random.nextInt(3)));
        }
        return text.toString();
    }

    private void told() {
        int a = pick(0, 11), b = pick(0, 4), sort = pick(0, 3);
        due("person " + a + " " + b, x.person(a, b), model.person(a, b));
        int what = pick(0, 5);
        due("of " + sort + " " + what, x.of(sort, what), model.of(sort, what));
        due("empty", x.empty(), model.empty());
        int rule = pick(0, 3);
        due("rule " + rule, x.rule(rule), model.rule(rule));
        int way = pick(0, 2);
        due("way " + sort + " " + way, x.way(sort, way), model.way(sort, way));
        int count = pick(0, 6);
        due("count " + count, x.count(count), model.count(count));
    }

    private void ahead(int which) {
        int n = pick(1, 60), sort = pick(0, 3);
        if (which < 66) {
            int what = pick(0, 4);
            due("would " + n + " " + what, x.would(n, what), model.would(n, what));
        } else if (which < 72) {
            due("gain " + sort + " " + n, x.gain(sort, n), model.gain(sort, n));
        } else if (which < 74) {
            int what = pick(0, 1);
            due("best " + n + " " + what, x.best(n, what), model.best(n, what));
        } else {
            int weeks = pick(1, 40), i = pick(-1, 625);
            due("rest " + weeks + " " + i, x.rest(weeks, i), model.rest(weeks, i));
            due("rest " + weeks + " -1", x.rest(weeks, -1), model.rest(weeks, -1));
        }
    }

    private void lots(int which) {
        int a = pick(0, 3), b = pick(0, 3);
        if (which < 82) {
            int place = pick(0, 5), houses = random.nextInt(), n = pick(1, 4), kind = pick(-1, 3), part = pick(0, 1);
            due("lot " + place + " " + houses + " " + n + " " + kind + " " + part,
                x.lot(place, houses, n, kind, part), model.lot(place, houses, n, kind, part));
        } else if (which < 86) {
            due("holder " + a + " " + b, x.holder(a, b), model.holder(a, b));
        } else if (which < 90) {
            int one = pick(0, 7);
            due("swaps " + one, x.swaps(one), model.swaps(one));
        } else if (which < 92) {
            due("rings", x.rings(), model.rings());
        } else {
            int i = pick(-1, 7);
            due("chain " + a + " " + i, x.chain(a, i), model.chain(a, i));
        }
    }

    /** All of what a state shows at once. */
    private void many() {
        for (int place = 0; place < 12; place++) {
            for (int what = 0; what < 5; what++) due("person", x.person(place, what), model.person(place, what));
        }
        for (int sort = 0; sort < 4; sort++) {
            for (int what = 0; what < 6; what++) due("of", x.of(sort, what), model.of(sort, what));
        }
        for (int one = 0; one < 8; one++) due("swaps", x.swaps(one), model.swaps(one));
        for (int what = 0; what < 7; what++) due("count", x.count(what), model.count(what));
    }
}
