import java.math.BigInteger;
import java.nio.charset.StandardCharsets;
import java.util.ArrayDeque;
import java.util.ArrayList;
import java.util.Arrays;
import java.util.Comparator;
import java.util.Deque;
import java.util.HashMap;
import java.util.List;
import java.util.Map;
import java.util.NoSuchElementException;
import java.util.regex.Matcher;
import java.util.regex.Pattern;

/** The document told a second time, in the slowest and most literal way, to be compared with SecondPaper. */
public final class PaperModel {
    private static final class Fault extends RuntimeException {
        private static final long serialVersionUID = 1;
        final int number;
        final int place;

        Fault(int number, int place) {
            this.number = number;
            this.place = place;
        }
    }

    private record Token(char sort, String text, int place) { }

    private record Name(String sort, int number) { }

    private record Gift(int giver, int thing, int person, int day) { }

    private record Fraction(BigInteger upper, BigInteger lower) implements Comparable<Fraction> {
        static Fraction of(BigInteger upper, BigInteger lower) {
            BigInteger gcd = upper.gcd(lower);
            return new Fraction(upper.divide(gcd), lower.divide(gcd));
        }

        Fraction plus(Fraction other) {
            return of(upper.multiply(other.lower).add(other.upper.multiply(lower)), lower.multiply(other.lower));
        }

        Fraction times(Fraction other) {
            return of(upper.multiply(other.upper), lower.multiply(other.lower));
        }

        Fraction inverse() {
            return new Fraction(lower, upper);
        }

        @Override
        public int compareTo(Fraction other) {
            return upper.multiply(other.lower).compareTo(other.upper.multiply(lower));
        }

        long part(boolean wantsLower) {
            return (wantsLower ? lower : upper).longValueExact();
        }
    }

    private static Fraction whole(long n) {
        return new Fraction(BigInteger.valueOf(n), BigInteger.ONE);
    }

    private static final class College {
        int days;
        int limit;
        final List<int[]> things = new ArrayList<>();
        final List<int[]> people = new ArrayList<>();
        final List<int[]> trams = new ArrayList<>();
        final List<int[]> givers = new ArrayList<>();
        final Map<List<Integer>, Integer> rides = new HashMap<>();
        final Map<List<Integer>, Integer> takes = new HashMap<>();
        final List<Gift> gifts = new ArrayList<>();
        final List<int[]> found = new ArrayList<>();
        final List<int[]> exams = new ArrayList<>();

        int tram(int g, int p, int day) {
            Integer a = takes.get(List.of(g, day));
            Integer b = rides.get(List.of(p, day));
            return a != null && a.equals(b) ? a : -1;
        }

        int room(int p) {
            return people.get(p)[0] == 2 ? people.get(p)[1] / 2 : people.get(p)[1];
        }

        int near(int g, int t, int p, int tram, int has) {
            int[] person = people.get(p);
            int[] thing = things.get(t);
            int sum = person[2] + thing[1] + new int[] {0, 3, 10}[thing[0]] + 5 * has;
            sum = sum - trams.get(tram)[0] - givers.get(g)[0] - (person[0] == 1 ? 20 : 0);
            sum = sum < 0 ? 0 : sum;
            sum = person[0] == 3 ? sum * 2 : sum;
            return sum > 100 ? 100 : sum;
        }
    }

    private static final class State implements Cloneable {
        int day = 0;
        Map<Integer, Integer> holder = new HashMap<>();
        int[] sewn = new int[5];
        int[] score = new int[3];
        int[] caught = new int[3];

        State copy() {
            State other = new State();
            other.day = day;
            other.holder = new HashMap<>(holder);
            other.sewn = sewn.clone();
            other.score = score.clone();
            other.caught = caught.clone();
            return other;
        }

        int has(int p) {
            int n = 0;
            for (int who : holder.values()) {
                n += who == p ? 1 : 0;
            }
            return n;
        }

        int bits(int p) {
            int bits = 0;
            for (Map.Entry<Integer, Integer> entry : holder.entrySet()) {
                bits += entry.getValue() == p ? 1 << entry.getKey() : 0;
            }
            return bits;
        }

        int comes(College c, Gift gift) {
            int tram = c.tram(gift.giver, gift.person, gift.day);
            if (tram < 0) {
                return 2;
            }
            if (holder.containsKey(gift.thing)) {
                return 3;
            }
            if (has(gift.person) >= c.room(gift.person) - sewn[gift.person]) {
                return 4;
            }
            return c.near(gift.giver, gift.thing, gift.person, tram, has(gift.person)) > c.limit ? 1 : 0;
        }

        void act(College c, Gift gift, int comes) {
            if (comes == 0) {
                holder.put(gift.thing, gift.person);
                score[gift.giver] += new int[] {1, 2, 4}[c.things.get(gift.thing)[0]];
            }
            if (comes == 1) {
                score[gift.giver] = 0;
                caught[gift.giver]++;
            }
        }
    }

    private final StringBuilder tape = new StringBuilder();
    private College college = null;
    private State now = new State();
    private final Deque<State> acts = new ArrayDeque<>();
    private final List<State> marks = new ArrayList<>();
    private int trouble = 0;
    private int fault = 0;
    private int where = -1;

    private int no(int why) {
        trouble = why;
        return -1;
    }

    private <T> T ok(T answer) {
        trouble = 0;
        return answer;
    }

    private boolean lacks(List<?> list, int i) {
        return college == null || i < 0 || i >= list.size();
    }

    private boolean noThing(int t) {
        return college == null || lacks(college.things, t);
    }

    private boolean noPerson(int p) {
        return college == null || lacks(college.people, p);
    }

    private boolean noGiver(int g) {
        return college == null || lacks(college.givers, g);
    }

    private boolean noTram(int tram) {
        return college == null || lacks(college.trams, tram);
    }

    private boolean noDay(int day) {
        return day < 0 || day >= college.days;
    }

    public int feed(int a, int b, int c, int d, int e) {
        if (tape.length() > 980) {
            return -1;
        }
        for (int number : new int[] {a, b, c, d, e}) {
            byte[] four = BigInteger.valueOf((number & 0xffffffffL) | 1L << 32).toByteArray();
            tape.append(new String(four, four.length - 4, 4, StandardCharsets.ISO_8859_1));
        }
        return tape.length();
    }

    public int college(int n) {
        if (n < 0 || n > tape.length()) {
            return no(2);
        }
        String text = tape.substring(0, n);
        tape.setLength(0);
        try {
            college = parse(text);
        } catch (Fault f) {
            fault = f.number;
            where = f.place;
            return no(4);
        }
        fault = 0;
        now = new State();
        acts.clear();
        marks.clear();
        return ok(college.things.size());
    }

    // -- the text

    private static final List<String> LINES = List.of("college", "thing", "person", "tram", "giver", "rides", "takes",
        "gives", "found", "exam");
    private static final Map<String, String> FORMS = Map.of(
        "college", "days 2-7 limit 0-100", "thing", "+ dead/egg/live weighs 0-50",
        "person", "+ plain/bishop/tailor/guard room 0-9 wakes 0-99", "tram", "+ crowd 0-60 worth 1-60",
        "giver", "+ skill 0-60", "rides", "@person @tram DAY", "takes", "@giver @tram DAY",
        "gives", "@giver @thing @person DAY", "found", "@thing @person",
        "exam", "@giver @thing @person @tram caught/free");
    private static final Map<String, Integer> MOST = Map.of("thing", 4, "person", 5, "tram", 4, "giver", 3, "rides", 16,
        "takes", 16, "gives", 12, "exam", 8);

    private static List<Token> tokens(String text) {
        List<Token> list = new ArrayList<>();
        Matcher m = Pattern.compile("(?<w>[a-z]+)|(?<n>[0-9]+)|(?<s>;)|(?<b> +)|(?<x>.)", Pattern.DOTALL).matcher(text);
        while (m.find()) {
            String found = m.group();
            if (m.group("w") != null) {
                list.add(new Token(found.length() > 8 ? 'x' : 'w', found, m.start()));
            } else if (m.group("n") != null) {
                list.add(new Token(found.length() > 3 ? 'x' : 'n', found, m.start()));
            } else if (m.group("s") != null) {
                list.add(new Token(';', found, m.start()));
            } else if (m.group("x") != null) {
                list.add(new Token('x', found, m.start()));
            }
        }
        list.add(new Token('.', "", text.length()));
        return list;
    }

    private static College parse(String text) {
        List<Token> tokens = tokens(text);
        College c = new College();
        Map<String, Name> names = new HashMap<>();
        Map<String, Integer> counts = new HashMap<>();
        int at = 0;
        boolean more = true;
        for (boolean first = true; more; first = false) {
            Token word = tokens.get(at);
            if (word.sort != 'w' || !LINES.contains(word.text)) {
                throw new Fault(1, word.place);
            }
            if (first != word.text.equals("college")) {
                throw new Fault(first ? 6 : 3, word.place);
            }
            String counted = word.text.equals("takes") ? "rides" : word.text;
            int count = counts.getOrDefault(counted, 0);
            if (count >= MOST.getOrDefault(word.text, 9999)) {
                throw new Fault(5, word.place);
            }
            String[] form = FORMS.get(word.text).split(" ");
            int[] row = new int[form.length];
            for (int i = 0; i < form.length; i++) {
                row[i] = part(c, names, word.text, form[i], tokens.get(at + 1 + i), row, i);
            }
            add(c, word.text, row);
            counts.put(counted, count + 1);
            at += 1 + form.length;
            Token end = tokens.get(at);
            if (end.sort != ';' && end.sort != '.') {
                throw new Fault(1, end.place);
            }
            more = end.sort == ';';
            at++;
        }
        if (c.things.isEmpty() || c.people.isEmpty() || c.givers.isEmpty()) {
            throw new Fault(6, text.length());
        }
        return c;
    }

    private static int part(College c, Map<String, Name> names, String line, String form, Token token, int[] row, int i) {
        boolean name = token.sort == 'w' && !LINES.contains(token.text);
        if (form.equals("+")) {
            if (!name) {
                throw new Fault(1, token.place);
            }
            if (names.containsKey(token.text)) {
                throw new Fault(3, token.place);
            }
            names.put(token.text, new Name(line, (int) names.values().stream().filter(n -> n.sort.equals(line)).count()));
            return 0;
        }
        if (form.startsWith("@")) {
            if (!name) {
                throw new Fault(1, token.place);
            }
            Name told = names.get(token.text);
            if (told == null || !told.sort.equals(form.substring(1))) {
                throw new Fault(2, token.place);
            }
            if (line.equals("found") && i == 0 && c.found.stream().anyMatch(f -> f[0] == told.number)) {
                throw new Fault(3, token.place);
            }
            return told.number;
        }
        if (form.equals("DAY") || Character.isDigit(form.charAt(0))) {
            if (token.sort != 'n') {
                throw new Fault(1, token.place);
            }
            String[] bounds = form.equals("DAY") ? new String[] {"0", "" + (c.days - 1)} : form.split("-");
            int number = Integer.parseInt(token.text);
            if (number < Integer.parseInt(bounds[0]) || number > Integer.parseInt(bounds[1])) {
                throw new Fault(4, token.place);
            }
            if (line.equals("rides") && c.rides.containsKey(List.of(row[0], number))
                || line.equals("takes") && c.takes.containsKey(List.of(row[0], number))) {
                throw new Fault(3, token.place);
            }
            return number;
        }
        int which = Arrays.asList(form.split("/")).indexOf(token.text);
        if (token.sort != 'w' || which < 0) {
            throw new Fault(1, token.place);
        }
        return which;
    }

    private static void add(College c, String line, int[] row) {
        switch (line) {
            case "college" -> {
                c.days = row[1];
                c.limit = row[3];
            }
            case "thing" -> c.things.add(new int[] {row[1], row[3]});
            case "person" -> c.people.add(new int[] {row[1], row[3], row[5]});
            case "tram" -> c.trams.add(new int[] {row[2], row[4]});
            case "giver" -> c.givers.add(new int[] {row[2]});
            case "rides" -> c.rides.put(List.of(row[0], row[2]), row[1]);
            case "takes" -> c.takes.put(List.of(row[0], row[2]), row[1]);
            case "gives" -> c.gifts.add(new Gift(row[0], row[1], row[2], row[3]));
            case "found" -> c.found.add(row);
            default -> c.exams.add(row);
        }
    }

    public int fault() {
        return fault;
    }

    public int where() {
        return trouble == 4 ? where : -1;
    }

    // -- now

    public int thing(int t, int what) {
        if (noThing(t) || what < 0 || what > 2) {
            return no(1);
        }
        return ok(what == 2 ? now.holder.getOrDefault(t, -2) : college.things.get(t)[what]);
    }

    public int person(int p, int what) {
        if (noPerson(p) || what < 0 || what > 3) {
            return no(1);
        }
        int[] row = college.people.get(p);
        return ok(new int[] {row[0], college.room(p) - now.sewn[p], row[2], now.bits(p)}[what]);
    }

    public int giver(int g, int what) {
        if (noGiver(g) || what < 0 || what > 2) {
            return no(1);
        }
        return ok(new int[] {college.givers.get(g)[0], now.score[g], now.caught[g]}[what]);
    }

    public int rides(int p, int day) {
        if (noPerson(p)) {
            return no(1);
        }
        return noDay(day) ? no(2) : ok(college.rides.getOrDefault(List.of(p, day), -2));
    }

    public int takes(int g, int day) {
        if (noGiver(g)) {
            return no(1);
        }
        return noDay(day) ? no(2) : ok(college.takes.getOrDefault(List.of(g, day), -2));
    }

    public int meet(int g, int h) {
        if (noGiver(g) || noGiver(h) || g == h) {
            return no(1);
        }
        int bits = 0;
        for (int day = 0; day < college.days; day++) {
            Integer tram = college.takes.get(List.of(g, day));
            bits += tram != null && tram.equals(college.takes.get(List.of(h, day))) ? 1 << day : 0;
        }
        return ok(bits);
    }

    public int near(int g, int t, int p, int tram) {
        if (noGiver(g) || noThing(t) || noPerson(p) || noTram(tram)) {
            return no(1);
        }
        return ok(college.near(g, t, p, tram, now.has(p)));
    }

    public int would(int g, int t, int p) {
        if (noGiver(g) || noThing(t) || noPerson(p)) {
            return no(1);
        }
        return ok(now.comes(college, new Gift(g, t, p, now.day)));
    }

    public int riders(int tram, int day) {
        if (noTram(tram)) {
            return no(1);
        }
        if (noDay(day)) {
            return no(2);
        }
        int bits = 0;
        for (int p = 0; p < college.people.size(); p++) {
            bits += college.rides.getOrDefault(List.of(p, day), -2) == tram ? 1 << p : 0;
        }
        return ok(bits);
    }

    public int spare(int p) {
        return noPerson(p) ? no(1) : ok(Math.max(0, college.room(p) - now.sewn[p] - now.has(p)));
    }

    /** All gifts of a thing at which giver and person are together, in order. */
    private List<Gift> meetings(int t, int lastDay) {
        List<Gift> list = new ArrayList<>();
        for (int day = 0; day <= lastDay; day++) {
            for (int g = 0; g < college.givers.size(); g++) {
                for (int p = 0; p < college.people.size(); p++) {
                    if (college.tram(g, p, day) >= 0) {
                        list.add(new Gift(g, t, p, day));
                    }
                }
            }
        }
        return list;
    }

    private static int told(Gift gift) {
        return 100 * gift.day + 10 * gift.giver + gift.person;
    }

    public int safest(int t) {
        if (noThing(t)) {
            return no(1);
        }
        return ok(meetings(t, college.days - 1).stream().filter(m -> college.room(m.person) >= 1)
            .min(Comparator.comparingInt(m -> college.near(m.giver, t, m.person, college.tram(m.giver, m.person, m.day), 0)))
            .map(PaperModel::told).orElse(-2));
    }

    // -- the plan

    private int[] plan(State state, int lastDay) {
        int[] comes = new int[college.gifts.size()];
        for (int day = 0; day <= lastDay; day++) {
            for (int k = 0; k < comes.length; k++) {
                if (college.gifts.get(k).day == day) {
                    comes[k] = state.comes(college, college.gifts.get(k));
                    state.act(college, college.gifts.get(k), comes[k]);
                }
            }
        }
        return comes;
    }

    public int planned(int k) {
        return college == null || lacks(college.gifts, k) ? no(1) : ok(plan(new State(), college.days - 1)[k]);
    }

    public int planHas(int p, int day) {
        if (noPerson(p)) {
            return no(1);
        }
        if (noDay(day)) {
            return no(2);
        }
        State state = new State();
        plan(state, day);
        return ok(state.bits(p));
    }

    public int planScore(int g, int day) {
        if (noGiver(g)) {
            return no(1);
        }
        if (noDay(day)) {
            return no(2);
        }
        State state = new State();
        plan(state, day);
        return ok(state.score[g]);
    }

    public int first() {
        if (college == null) {
            return no(1);
        }
        State state = new State();
        plan(state, college.days - 1);
        int most = Arrays.stream(state.score).max().orElse(0);
        int g = 0;
        while (state.score[g] != most) {
            g++;
        }
        return ok(g);
    }

    public int judge() {
        if (college == null) {
            return no(1);
        }
        int[] comes = plan(new State(), college.days - 1);
        for (int k = 0; k < comes.length; k++) {
            if (comes[k] != 0 && comes[k] != 1) {
                return ok(k);
            }
        }
        return ok(-2);
    }

    public int amiss() {
        if (college == null) {
            return no(1);
        }
        State state = new State();
        plan(state, college.days - 1);
        for (int[] f : college.found) {
            if (state.holder.getOrDefault(f[0], -2) != f[1]) {
                return ok(f[0]);
            }
        }
        return ok(-2);
    }

    // -- all given

    private List<Gift> allGiven() {
        for (int last = 0; last < college.days; last++) {
            List<Gift> row = allGiven(new ArrayList<>(), last);
            if (row != null) {
                return row;
            }
        }
        return null;
    }

    private List<Gift> allGiven(List<Gift> row, int last) {
        if (row.size() == college.things.size()) {
            return isGiven(row) ? row : null;
        }
        for (Gift gift : meetings(row.size(), last)) {
            if (row.stream().anyMatch(other -> other.giver == gift.giver && other.day == gift.day)) {
                continue;
            }
            List<Gift> longer = new ArrayList<>(row);
            longer.add(gift);
            List<Gift> found = allGiven(longer, last);
            if (found != null) {
                return found;
            }
        }
        return null;
    }

    private boolean isGiven(List<Gift> row) {
        State state = new State();
        List<Gift> ordered = new ArrayList<>(row);
        ordered.sort(Comparator.comparingInt((Gift g) -> g.day).thenComparingInt(g -> g.thing));
        for (Gift gift : ordered) {
            if (state.comes(college, gift) != 0) {
                return false;
            }
            state.act(college, gift, 0);
        }
        return true;
    }

    public int soonest() {
        if (college == null) {
            return no(1);
        }
        List<Gift> row = allGiven();
        return ok(row == null ? -2 : row.stream().mapToInt(g -> g.day).max().orElse(-9));
    }

    public int soonestOf(int t) {
        if (noThing(t)) {
            return no(1);
        }
        List<Gift> row = allGiven();
        return row == null ? no(6) : ok(told(row.get(t)));
    }

    public int never() {
        if (college == null) {
            return no(1);
        }
        int bits = 0;
        for (int t = 0; t < college.things.size(); t++) {
            if (meetings(t, college.days - 1).stream().noneMatch(m -> new State().comes(college, m) == 0)) {
                bits |= 1 << t;
            }
        }
        return ok(bits);
    }

    // -- who gave

    private List<List<Gift>> rows() {
        List<List<Gift>> rows = List.of(List.of());
        for (int[] f : college.found) {
            List<List<Gift>> longer = new ArrayList<>();
            for (List<Gift> row : rows) {
                for (Gift m : meetings(f[0], college.days - 1)) {
                    if (m.person == f[1] && new State().comes(college, m) == 0
                        && row.stream().noneMatch(other -> other.giver == m.giver && other.day == m.day)) {
                        List<Gift> next = new ArrayList<>(row);
                        next.add(m);
                        longer.add(next);
                    }
                }
            }
            rows = longer;
        }
        return rows;
    }

    public int fits() {
        if (college == null) {
            return no(1);
        }
        return college.found.isEmpty() ? no(6) : ok(rows().size());
    }

    private boolean notFound(int t) {
        return college == null || college.found.stream().noneMatch(f -> f[0] == t);
    }

    private int giverIn(List<Gift> row, int t) {
        return row.stream().filter(g -> g.thing == t).findFirst().orElseThrow().giver;
    }

    public int could(int t) {
        return notFound(t) ? no(1) : ok(rows().stream().mapToInt(row -> 1 << giverIn(row, t)).reduce(0, (a, b) -> a | b));
    }

    public int surely(int t) {
        if (notFound(t)) {
            return no(1);
        }
        List<List<Gift>> rows = rows();
        for (int g = 0; g < college.givers.size() && !rows.isEmpty(); g++) {
            int giver = g;
            if (rows.stream().allMatch(row -> giverIn(row, t) == giver)) {
                return ok(g);
            }
        }
        return ok(-2);
    }

    // -- lots, choices

    private List<Integer> byWorth() {
        List<Integer> order = new ArrayList<>();
        for (int tram = 0; tram < college.trams.size(); tram++) {
            order.add(tram);
        }
        order.sort(Comparator.comparingInt((Integer tram) -> -college.trams.get(tram)[1]));
        return order;
    }

    private Fraction inverses(List<Integer> some) {
        Fraction sum = whole(0);
        for (int tram : some) {
            sum = sum.plus(whole(college.trams.get(tram)[1]).inverse());
        }
        return sum;
    }

    private List<Integer> taken() {
        List<Integer> order = byWorth();
        List<Integer> best = order.subList(0, 1);
        for (int n = 2; n <= order.size(); n++) {
            if (valueOf(order.subList(0, n)).compareTo(valueOf(best)) > 0) {
                best = order.subList(0, n);
            }
        }
        return best;
    }

    private Fraction valueOf(List<Integer> some) {
        return whole(some.size() - 1).times(inverses(some).inverse());
    }

    public long value(boolean lower) {
        if (college == null) {
            return no(1);
        }
        return college.trams.isEmpty() ? no(6) : ok(valueOf(taken()).part(lower));
    }

    public long lot(int tram, boolean lower) {
        if (noTram(tram)) {
            return no(1);
        }
        List<Integer> taken = taken();
        Fraction often = taken.contains(tram)
            ? inverses(List.of(tram)).times(inverses(taken).inverse()) : whole(0);
        return ok(often.part(lower));
    }

    private int share(int[] row, int p, int day) {
        int givers = 0;
        for (int g = 0; g < college.givers.size(); g++) {
            givers += college.takes.getOrDefault(List.of(g, day), -2) == row[p] ? 1 : 0;
        }
        int on = 0;
        for (int tram : row) {
            on += tram == row[p] ? 1 : 0;
        }
        return 60 * givers / on;
    }

    private boolean isRest(int[] row, int day) {
        for (int p = 0; p < row.length; p++) {
            int mine = share(row, p, day);
            for (int tram = 0; tram < college.trams.size(); tram++) {
                int[] other = row.clone();
                other[p] = tram;
                if (share(other, p, day) > mine) {
                    return false;
                }
            }
        }
        return true;
    }

    private List<int[]> restRows(int day) {
        List<int[]> rests = new ArrayList<>();
        int[] row = new int[college.people.size()];
        boolean more = true;
        while (more) {
            if (isRest(row, day)) {
                rests.add(row.clone());
            }
            int p = row.length - 1;
            while (p >= 0 && row[p] == college.trams.size() - 1) {
                row[p] = 0;
                p--;
            }
            more = p >= 0;
            if (more) {
                row[p]++;
            }
        }
        return rests;
    }

    public int rests(int day) {
        if (college == null) {
            return no(1);
        }
        if (college.trams.isEmpty()) {
            return no(6);
        }
        return noDay(day) ? no(2) : ok(restRows(day).size());
    }

    public int restOf(int day, int p) {
        if (noPerson(p)) {
            return no(1);
        }
        if (college.trams.isEmpty()) {
            return no(6);
        }
        if (noDay(day)) {
            return no(2);
        }
        List<int[]> rests = restRows(day);
        return ok(rests.isEmpty() ? -2 : rests.get(0)[p]);
    }

    // -- limits, dares

    public int limit(boolean most) {
        if (college == null) {
            return no(1);
        }
        int found = -2;
        for (int limit = 0; limit <= 100; limit++) {
            boolean so = true;
            for (int[] e : college.exams) {
                so &= (college.near(e[0], e[1], e[2], e[3], 0) > limit) == (e[4] == 0);
            }
            if (so && (most || found < 0)) {
                found = limit;
            }
        }
        return ok(found);
    }

    private static Fraction mean(int n, int chance) {
        Fraction step = whole(100 - chance).times(whole(100).inverse());
        Fraction mean = whole(n);
        for (int i = 0; i < n; i++) {
            mean = mean.times(step);
        }
        return mean;
    }

    private static int steps(int chance) {
        int best = 0;
        for (int n = 1; n <= 8; n++) {
            best = mean(n, chance).compareTo(mean(best, chance)) > 0 ? n : best;
        }
        return best;
    }

    public int dare(int chance) {
        if (college == null) {
            return no(1);
        }
        return chance < 0 || chance > 100 ? no(2) : ok(steps(chance));
    }

    public long honours(int chance, boolean lower) {
        if (college == null) {
            return no(1);
        }
        return chance < 0 || chance > 100 ? no(2) : ok(mean(steps(chance), chance).part(lower));
    }

    // -- by draws

    /** Answers how many are given; counts who is caught; the seed goes on in seed[0]. */
    private int draw(long[] seed, int[] caught) {
        State state = new State();
        int given = 0;
        for (int day = 0; day < college.days; day++) {
            for (Gift gift : college.gifts) {
                int comes = gift.day == day ? state.comes(college, gift) : 9;
                if (comes > 1) {
                    continue;
                }
                seed[0] = (75 * seed[0] + 74) % 65537;
                int tram = college.tram(gift.giver, gift.person, day);
                if (seed[0] % 100 < college.near(gift.giver, gift.thing, gift.person, tram, state.has(gift.person))) {
                    caught[gift.giver]++;
                } else {
                    given++;
                    state.act(college, gift, 0);
                }
            }
        }
        return given;
    }

    public int drawn(int seed) {
        if (college == null) {
            return no(1);
        }
        return seed < 0 || seed > 65536 ? no(2) : ok(draw(new long[] {seed}, new int[3]));
    }

    public int caught(int g, int seed, int n) {
        if (noGiver(g)) {
            return no(1);
        }
        if (seed < 0 || seed > 65536 || n < 1 || n > 50) {
            return no(2);
        }
        long[] going = {seed};
        int[] caught = new int[3];
        for (int i = 0; i < n; i++) {
            draw(going, caught);
        }
        return ok(caught[g]);
    }

    // -- acts

    private void keep() {
        acts.addLast(now.copy());
        if (acts.size() > 16) {
            acts.removeFirst();
        }
    }

    public int give(int g, int t, int p) {
        if (noGiver(g) || noThing(t) || noPerson(p)) {
            return no(1);
        }
        Gift gift = new Gift(g, t, p, now.day);
        int comes = now.comes(college, gift);
        if (comes > 1) {
            return no(5);
        }
        keep();
        now.act(college, gift, comes);
        return ok(comes);
    }

    public int day() {
        if (college == null) {
            return no(1);
        }
        keep();
        now.day = now.day == college.days - 1 ? 0 : now.day + 1;
        return ok(now.day);
    }

    public boolean sew(int p) {
        if (noPerson(p)) {
            return no(1) == 0;
        }
        if (college.room(p) - now.sewn[p] == 0) {
            return no(5) == 0;
        }
        keep();
        now.sewn[p]++;
        return ok(true);
    }

    public boolean undo() {
        if (acts.isEmpty()) {
            return no(6) == 0;
        }
        now = acts.removeLast();
        return ok(true);
    }

    public int mark() {
        if (college == null) {
            return no(1);
        }
        if (marks.size() == 3) {
            return no(3);
        }
        marks.add(now.copy());
        return ok(marks.size() - 1);
    }

    public boolean back(int mark) {
        if (mark < 0 || mark >= marks.size()) {
            return no(1) == 0;
        }
        now = marks.get(mark).copy();
        acts.clear();
        return ok(true);
    }

    // -- what is told

    public int led(int i) throws NoSuchElementException {
        List<Integer> left = new ArrayList<>();
        for (int t = 0; college != null && t < college.things.size(); t++) {
            if (!now.holder.containsKey(t)) {
                left.add(t);
            }
        }
        if (i < 0 || i >= left.size()) {
            throw new NoSuchElementException();
        }
        return left.get(i);
    }

    public int size(int what) {
        if (what < 0 || what > 13) {
            return -1;
        }
        if (what == 13) {
            return tape.length();
        }
        if (college == null) {
            return 0;
        }
        return new int[] {college.days, college.limit, college.things.size(), college.people.size(), college.trams.size(),
            college.givers.size(), college.rides.size() + college.takes.size(), college.gifts.size(), college.found.size(),
            college.exams.size(), now.day, acts.size(), marks.size()}[what];
    }

    public int trouble() {
        return trouble;
    }
}
