import java.math.BigInteger;
import java.util.ArrayList;
import java.util.Comparator;
import java.util.HashMap;
import java.util.List;
import java.util.Map;
import java.util.regex.Matcher;
import java.util.regex.Pattern;

/** The document once more, apart from the class, in the plainest way that the Java library allows. */
final class Model {
    private static final int NONE = -1, UNKNOWN = -2, OUTSIDE = -3, NOT = -4, FULL = -5;

    private record Told(String order, int noes, String then, int grow, List<List<String>> ways) {
    }

    private record Person(int sort, int number, int points, int noes, int waited) {
        Person olderBy(int grow) {
            return new Person(sort, number, Math.min(99, points + grow), noes, waited + 1);
        }
    }

    /** All that a week changes. */
    private static final class State {
        List<Person> list = new ArrayList<>();
        int weeks, next, empty;
        int[][] sums = new int[4][6];

        State copy() {
            State other = new State();
            other.list.addAll(list);
            other.weeks = weeks;
            other.next = next;
            other.empty = empty;
            for (int i = 0; i < 4; i++) other.sums[i] = sums[i].clone();
            return other;
        }
    }

    private final int[][] worths = new int[4][4];
    private final int[] needs = {1, 1, 1, 1};
    private final List<Integer> coming = new ArrayList<>();
    private final List<Integer> joining = new ArrayList<>();
    private final List<int[]> holders = new ArrayList<>();
    private String text = "";
    private Told told = tell(List.of());
    private State state = new State();

    private static final List<String> FORMS = List.of("order time", "order need", "order points", "noes #9",
        "then end", "then back", "then stay", "grow #9", "way #3 any", "way #3 bar #99", "way #3 fall #99 #9");

    private static Told tell(List<List<String>> lines) {
        Map<String, List<String>> last = new HashMap<>();
        for (List<String> line : lines) {
            String word = line.get(0);
            last.put(word.equals("way") ? word + Integer.parseInt(line.get(1)) : word, line);
        }
        List<List<String>> ways = new ArrayList<>();
        for (int sort = 0; sort < 4; sort++) {
            List<String> way = last.getOrDefault("way" + sort, List.of("way", "" + sort, "any"));
            ways.add(way.subList(2, way.size()));
        }
        return new Told(last.getOrDefault("order", List.of("", "time")).get(1),
            Integer.parseInt(last.getOrDefault("noes", List.of("", "2")).get(1)),
            last.getOrDefault("then", List.of("", "end")).get(1),
            Integer.parseInt(last.getOrDefault("grow", List.of("", "1")).get(1)), ways);
    }

    private static boolean fits(String token, String form) {
        if (!form.startsWith("#")) return token.equals(form);
        return token.matches("[0-9]{1,2}") && Integer.parseInt(token) <= Integer.parseInt(form.substring(1));
    }

    /** Whether the tokens are a form, or, with more to come, the beginning of one. */
    private static boolean stands(List<String> tokens, boolean whole) {
        for (String form : FORMS) {
            String[] parts = form.split(" ");
            if (tokens.size() > parts.length || whole && tokens.size() < parts.length) continue;
            boolean all = true;
            for (int i = 0; i < tokens.size(); i++) all &= fits(tokens.get(i), parts[i]);
            if (all) return true;
        }
        return false;
    }

    private int read(List<List<String>> lines) {
        Matcher each = Pattern.compile("[a-z]+|[0-9]+|[^ ]", Pattern.DOTALL).matcher(text);
        List<String> line = new ArrayList<>();
        while (each.find()) {
            if (each.group().equals(";")) {
                if (!stands(line, true) || lines.size() == 11) return each.start();
                lines.add(line);
                line = new ArrayList<>();
            } else {
                line.add(each.group());
                if (!stands(line, false)) return each.start();
            }
        }
        if (!stands(line, true)) return text.length();
        lines.add(line);
        return NONE;
    }

    private List<Person> inOrder(State s, Told rules) {
        Comparator<Person> order = Comparator.comparingInt(Person::number);
        if (rules.order.equals("need")) {
            order = Comparator.comparingInt((Person p) -> -needs[p.sort]).thenComparing(order);
        }
        if (rules.order.equals("points")) {
            order = Comparator.comparingInt((Person p) -> -p.points).thenComparing(order);
        }
        List<Person> list = new ArrayList<>(s.list);
        list.sort(order);
        return list;
    }

    private boolean takes(Person p, int kind, Told rules) {
        List<String> way = rules.ways.get(p.sort);
        if (way.get(0).equals("any")) return true;
        int bar = Integer.parseInt(way.get(1));
        if (way.get(0).equals("fall")) bar -= Integer.parseInt(way.get(2)) * p.waited;
        return worths[p.sort][kind] >= bar;
    }

    private void week(State s, Told rules) {
        int kind = coming.isEmpty() ? NONE : coming.get(s.weeks % coming.size());
        if (kind != NONE) {
            boolean taken = false;
            for (Person p : inOrder(s, rules)) {
                s.list.remove(p);
                if (takes(p, kind, rules)) {
                    s.sums[p.sort][0]++;
                    s.sums[p.sort][1] += p.waited;
                    s.sums[p.sort][2] += worths[p.sort][kind];
                    taken = true;
                    break;
                }
                boolean over = p.noes + 1 > rules.noes;
                if (over && rules.then.equals("end")) {
                    s.sums[p.sort][3]++;
                } else if (over && rules.then.equals("back")) {
                    s.list.add(new Person(p.sort, s.next++, 0, 0, p.waited));
                } else {
                    s.list.add(new Person(p.sort, p.number, p.points, p.noes + 1, p.waited));
                }
            }
            if (!taken) s.empty++;
        }
        int sort = joining.isEmpty() ? NONE : joining.get(s.weeks % joining.size());
        if (sort != NONE && s.list.size() == 12) s.sums[sort][4]++;
        else if (sort != NONE) s.list.add(new Person(sort, s.next++, 0, 0, 0));
        s.list.replaceAll(p -> p.olderBy(rules.grow));
        for (Person p : s.list) s.sums[p.sort][5] += needs[p.sort];
        s.weeks++;
    }

    /** What n weeks bring to each sort, and in the last row, first, the empty houses. */
    private int[][] ahead(int n, Told rules) {
        State s = state.copy();
        for (int i = 0; i < n; i++) week(s, rules);
        int[][] more = new int[5][6];
        for (int sort = 0; sort < 4; sort++) {
            for (int what = 0; what < 6; what++) more[sort][what] = s.sums[sort][what] - state.sums[sort][what];
        }
        more[4][0] = s.empty - state.empty;
        return more;
    }

    private static int sum(int[][] more, int what) {
        return more[0][what] + more[1][what] + more[2][what] + more[3][what];
    }

    private static boolean bad(int v, int least, int most) {
        return v < least || v > most;
    }

    int worth(int sort, int kind, int v) {
        if (bad(sort, 0, 3) || bad(kind, 0, 3)) return UNKNOWN;
        if (bad(v, 0, 99)) return OUTSIDE;
        int was = worths[sort][kind];
        worths[sort][kind] = v;
        return was;
    }

    int need(int sort, int v) {
        if (bad(sort, 0, 3)) return UNKNOWN;
        if (bad(v, 1, 9)) return OUTSIDE;
        int was = needs[sort];
        needs[sort] = v;
        return was;
    }

    int coming(int kind) {
        return longer(coming, kind);
    }

    int joining(int sort) {
        return longer(joining, sort);
    }

    private static int longer(List<Integer> row, int item) {
        if (bad(item, -1, 3)) return UNKNOWN;
        if (row.size() == 24) return FULL;
        row.add(item);
        return row.size();
    }

    int join(int sort) {
        if (bad(sort, 0, 3)) return UNKNOWN;
        if (state.list.size() == 12) return FULL;
        state.list.add(new Person(sort, state.next++, 0, 0, 0));
        return state.list.size();
    }

    int run(int n) {
        if (bad(n, 1, 100) || state.weeks + n > 2000) return OUTSIDE;
        for (int i = 0; i < n; i++) week(state, told);
        return state.weeks;
    }

    int person(int place, int what) {
        if (bad(place, 0, state.list.size() - 1)) return UNKNOWN;
        if (bad(what, 0, 4)) return OUTSIDE;
        Person p = inOrder(state, told).get(place);
        return new int[] {p.sort, p.number, p.points, p.noes, p.waited}[what];
    }

    int of(int sort, int what) {
        if (bad(sort, 0, 3)) return UNKNOWN;
        return bad(what, 0, 5) ? OUTSIDE : state.sums[sort][what];
    }

    int empty() {
        return state.empty;
    }

    int write(long bytes, int n) {
        if (bad(n, 1, 8)) return OUTSIDE;
        if (text.length() + n > 160) return FULL;
        for (int i = 0; i < n; i++) text += (char) (bytes >>> 8 * i & 255);
        return text.length();
    }

    int erase() {
        int had = text.length();
        text = "";
        return had;
    }

    int fault() {
        return read(new ArrayList<>());
    }

    int rules() {
        List<List<String>> lines = new ArrayList<>();
        if (read(lines) != NONE) return NOT;
        told = tell(lines);
        text = "";
        return lines.size();
    }

    int rule(int what) {
        if (bad(what, 0, 3)) return OUTSIDE;
        return new int[] {List.of("time", "need", "points").indexOf(told.order), told.noes,
            List.of("end", "back", "stay").indexOf(told.then), told.grow}[what];
    }

    int way(int sort, int what) {
        if (bad(sort, 0, 3)) return UNKNOWN;
        if (bad(what, 0, 2)) return OUTSIDE;
        List<String> way = told.ways.get(sort);
        if (what == 0) return List.of("any", "bar", "fall").indexOf(way.get(0));
        return what < way.size() ? Integer.parseInt(way.get(what)) : 0;
    }

    int would(int n, int what) {
        if (bad(n, 1, 60) || bad(what, 0, 4)) return OUTSIDE;
        int[][] more = ahead(n, told);
        return new int[] {sum(more, 5), sum(more, 0), more[4][0], sum(more, 3), sum(more, 4)}[what];
    }

    int gain(int sort, int n) {
        if (bad(sort, 0, 3) || bad(n, 1, 60)) return Integer.MIN_VALUE;
        int[][] more = ahead(n, told);
        return more[sort][2] - more[sort][5];
    }

    int best(int n, int what) {
        if (bad(n, 1, 60) || bad(what, 0, 1)) return OUTSIDE;
        int[] found = null;
        for (String order : List.of("points", "need", "time")) {
            for (int noes = 3; noes >= 0; noes--) {
                for (String then : List.of("stay", "back", "end")) {
                    int cost = sum(ahead(n, new Told(order, noes, then, told.grow, told.ways)), 5);
                    int number = 12 * List.of("time", "need", "points").indexOf(order) + 3 * noes
                        + List.of("end", "back", "stay").indexOf(then);
                    if (found == null || cost <= found[1]) found = new int[] {number, cost};
                }
            }
        }
        return found[what];
    }

    int rest(int n, int i) {
        if (bad(n, 1, 40) || i < -1) return OUTSIDE;
        int[][] gains = new int[625][4];
        for (int setting = 0; setting < 625; setting++) {
            List<List<String>> ways = new ArrayList<>();
            int rest = setting;
            for (int sort = 0; sort < 4; sort++) {
                ways.add(rest % 5 == 0 ? List.of("any") : List.of("bar", "" + worths[sort][rest % 5 - 1]));
                rest /= 5;
            }
            int[][] more = ahead(n, new Told(told.order, told.noes, told.then, told.grow, ways));
            for (int sort = 0; sort < 4; sort++) gains[setting][sort] = more[sort][2] - more[sort][5];
        }
        List<Integer> found = new ArrayList<>();
        for (int setting = 0; setting < 625; setting++) {
            boolean rests = true;
            for (int other = 0; other < 625; other++) {
                int sort = onlyUnlikeFigure(setting, other);
                if (sort != NONE && gains[other][sort] > gains[setting][sort]) rests = false;
            }
            if (rests) found.add(setting);
        }
        if (i == -1) return found.size();
        return i < found.size() ? found.get(i) : NONE;
    }

    private static int onlyUnlikeFigure(int a, int b) {
        int unlike = NONE;
        for (int sort = 0; sort < 4; sort++) {
            if (a % 5 != b % 5) {
                if (unlike != NONE) return NONE;
                unlike = sort;
            }
            a /= 5;
            b /= 5;
        }
        return unlike;
    }

    int lot(int place, int houses, int n, int kind, int part) {
        int m = Math.min(6, state.list.size());
        if (bad(place, 0, m - 1) || bad(kind, -1, 3)) return UNKNOWN;
        if (bad(n, 1, 4) || bad(part, 0, 1)) return OUTSIDE;
        List<Person> first = inOrder(state, told).subList(0, m);
        List<List<Integer>> rows = new ArrayList<>();
        permute(new ArrayList<>(), m, rows);
        int lucky = 0;
        for (List<Integer> row : rows) {
            List<Integer> left = new ArrayList<>();
            for (int i = 0; i < n; i++) left.add(houses >> 2 * i & 3);
            for (int one : row) {
                int sort = first.get(one).sort;
                Integer taken = left.stream().min(Comparator.comparingInt((Integer k) -> -worths[sort][k])
                    .thenComparingInt(k -> k)).orElse(null);
                if (taken == null) break;
                left.remove(taken);
                if (one == place && (kind == -1 || kind == taken)) lucky++;
            }
        }
        return (int) part(BigInteger.valueOf(lucky), BigInteger.valueOf(rows.size()), part);
    }

    private static void permute(List<Integer> row, int m, List<List<Integer>> rows) {
        if (row.size() == m) {
            rows.add(new ArrayList<>(row));
            return;
        }
        for (int i = 0; i < m; i++) {
            if (row.contains(i)) continue;
            row.add(i);
            permute(row, m, rows);
            row.remove(row.size() - 1);
        }
    }

    private static long part(BigInteger above, BigInteger below, int part) {
        BigInteger divisor = above.gcd(below);
        return (part == 0 ? above : below).divide(divisor).longValueExact();
    }

    int holder(int sort, int kind) {
        if (bad(sort, 0, 3) || bad(kind, 0, 3)) return UNKNOWN;
        if (holders.size() == 8) return FULL;
        holders.add(new int[] {sort, kind});
        return holders.size() - 1;
    }

    private int worthOf(int holder, int kind) {
        return worths[holders.get(holder)[0]][kind];
    }

    /** All rings of a round at once; in the last place how many are of two or more. */
    private int[] exchange() {
        int many = holders.size();
        int[] gets = new int[many + 1];
        List<Integer> there = new ArrayList<>();
        for (int i = 0; i < many; i++) there.add(i);
        while (!there.isEmpty()) {
            Map<Integer, Integer> points = new HashMap<>();
            for (int one : there) {
                int most = there.stream().mapToInt(h -> worthOf(one, holders.get(h)[1])).max().getAsInt();
                boolean own = worthOf(one, holders.get(one)[1]) == most;
                points.put(one, own ? one
                    : there.stream().filter(h -> worthOf(one, holders.get(h)[1]) == most).findFirst().get());
            }
            List<Integer> leaving = new ArrayList<>();
            for (int one : there) {
                int at = points.get(one);
                int least = Math.min(one, at);
                int steps = 1;
                while (at != one && steps <= many) {
                    at = points.get(at);
                    least = Math.min(least, at);
                    steps++;
                }
                if (at != one) continue;
                leaving.add(one);
                gets[one] = points.get(one);
                if (steps > 1 && least == one) gets[many]++;
            }
            there.removeAll(leaving);
        }
        return gets;
    }

    int swaps(int holder) {
        return bad(holder, 0, holders.size() - 1) ? UNKNOWN : exchange()[holder];
    }

    int rings() {
        return exchange()[holders.size()];
    }

    int chain(int kind, int i) {
        if (bad(kind, 0, 3)) return UNKNOWN;
        if (i < -1) return OUTSIDE;
        // All rows of one length, in order, made longer by one till there are none.
        List<List<Integer>> rows = List.of(List.of());
        List<Integer> longest = List.of();
        while (!rows.isEmpty()) {
            longest = rows.get(0);
            List<List<Integer>> longer = new ArrayList<>();
            for (List<Integer> row : rows) {
                int free = row.isEmpty() ? kind : holders.get(row.get(row.size() - 1))[1];
                for (int one = 0; one < holders.size(); one++) {
                    if (row.contains(one) || worthOf(one, free) <= worthOf(one, holders.get(one)[1])) continue;
                    List<Integer> next = new ArrayList<>(row);
                    next.add(one);
                    longer.add(next);
                }
            }
            rows = longer;
        }
        if (i == -1) return longest.size();
        return i < longest.size() ? longest.get(i) : NONE;
    }

    /** Solves share = share times steps, exactly, by Bareiss' elimination, and weighs lengths by shares. */
    long mean(int p, int q, int most, int part) {
        if (bad(p, 1, 9) || bad(q, 1, 9) || bad(most, 1, 6) || bad(part, 0, 1)) return OUTSIDE;
        int size = most + 1;
        int[][] steps = new int[size][size];
        for (int from = 0; from < size; from++) {
            for (int joins = 0; joins < 2; joins++) {
                for (int comes = 0; comes < 2; comes++) {
                    int weight = (joins == 1 ? p : 10 - p) * (comes == 1 ? q : 10 - q);
                    int to = from;
                    if (joins == 1 && comes == 0) to = Math.min(most, from + 1);
                    if (joins == 0 && comes == 1) to = Math.max(0, from - 1);
                    steps[from][to] += weight;
                }
            }
        }
        BigInteger above = BigInteger.ZERO;
        BigInteger below = BigInteger.ZERO;
        for (int k = 0; k < size; k++) {
            BigInteger share = minor(steps, k).abs();
            above = above.add(share.multiply(BigInteger.valueOf(k)));
            below = below.add(share);
        }
        return part(above, below, part);
    }

    /** The chain's share of a length is as the determinant of (100 - steps) without its row and column. */
    private static BigInteger minor(int[][] steps, int without) {
        int size = steps.length - 1;
        BigInteger[][] m = new BigInteger[size][size];
        for (int i = 0; i < size; i++) {
            for (int j = 0; j < size; j++) {
                int from = i < without ? i : i + 1;
                int to = j < without ? j : j + 1;
                m[i][j] = BigInteger.valueOf((from == to ? 100 : 0) - steps[from][to]);
            }
        }
        BigInteger last = BigInteger.ONE;
        for (int k = 0; k + 1 < size; k++) {
            for (int i = k + 1; i < size; i++) {
                for (int j = k + 1; j < size; j++) {
                    m[i][j] = m[i][j].multiply(m[k][k]).subtract(m[i][k].multiply(m[k][j])).divide(last);
                }
            }
            last = m[k][k];
        }
        return m[size - 1][size - 1];
    }

    int count(int what) {
        if (bad(what, 0, 6)) return OUTSIDE;
        return new int[] {state.weeks, state.list.size(), coming.size(), joining.size(), text.length(),
            holders.size(), state.next}[what];
    }
}
