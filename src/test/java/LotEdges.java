import java.math.BigInteger;
import java.util.function.Supplier;

/** The edges of LOT, CHOICE, LIMIT and DARE, and of promises 29 to 35. */
final class LotEdges {
    private static final int[] WRONG = {-1, -2, Integer.MIN_VALUE, Integer.MAX_VALUE};
    private static final String BASE = "college days 7 limit 0;thing a dead weighs 0;giver m skill 0;giver n skill 0;giver o skill 0";
    private static final String ONE = ";person p plain room 1 wakes 0";

    private final Check check;

    LotEdges(Check check) {
        this.check = check;
    }

    void run() {
        lots();
        valueOfSome();
        lotRefusals();
        shares();
        rests();
        restRefusals();
        limits();
        limitRefusals();
        dares();
        means();
        dareRefusals();
    }

    private static Supplier<SecondPaper> of(String text) {
        return () -> Check.told(text);
    }

    private static String trams(int... worths) {
        StringBuilder text = new StringBuilder();
        for (int i = 0; i < worths.length; i++) {
            text.append(";tram x").append((char) ('a' + i)).append(" crowd 0 worth ").append(worths[i]);
        }
        return text.toString();
    }

    // ---- LOT

    /** VALUE of the worths, and the lots, each as an upper and a lower number. */
    private void lot(int[] worths, long upper, long lower, long... lots) {
        String text = BASE + ONE + trams(worths);
        check.answers(of(text), "value(false)", upper, x -> x.value(false));
        check.answers(of(text), "value(true)", lower, x -> x.value(true));
        for (int i = 0; i < worths.length; i++) {
            int tram = i;
            check.answers(of(text), "lot(" + i + ", false)", lots[2 * i], x -> x.lot(tram, false));
            check.answers(of(text), "lot(" + i + ", true)", lots[2 * i + 1], x -> x.lot(tram, true));
        }
        check.refuses(of(text), "lot(" + worths.length + ", true)", 1, x -> x.lot(worths.length, true));
    }

    private void lots() {
        check.term("III", "LOT: an inspector stands on one tram, a giver takes one, each by chances: the giver has its worth,"
            + " if it isn't the inspector's, else 0: VALUE of the giver's best chances: as fractions, exactly:");
        // One tram: the inspector stands on it.
        lot(new int[] {1}, 0, 1, 1, 1);
        lot(new int[] {60}, 0, 1, 1, 1);
        // Two: each as often as the other's worth.
        lot(new int[] {1, 1}, 1, 2, 1, 2, 1, 2);
        lot(new int[] {60, 60}, 30, 1, 1, 2, 1, 2);
        lot(new int[] {1, 60}, 60, 61, 60, 61, 1, 61);
        lot(new int[] {60, 59}, 3540, 119, 59, 119, 60, 119);
        lot(new int[] {1, 1, 1, 1}, 3, 4, 1, 4, 1, 4, 1, 4, 1, 4);
        lot(new int[] {60, 60, 60, 60}, 45, 1, 1, 4, 1, 4, 1, 4, 1, 4);
        lot(new int[] {59, 60, 57, 58}, 1950540, 44473, 11020, 44473, 32509, 133419, 34220, 133419, 11210, 44473);
    }

    private void valueOfSome() {
        check.term("III", "of some trams of greatest worth (of like ones the first ones) the giver takes each as often as makes all alike"
            + " for the inspector, so many of them as VALUE is greatest by, the fewest of like.");
        // A tram whose worth is just VALUE without it isn't taken; one worth more is.
        lot(new int[] {20, 30, 60}, 20, 1, 0, 1, 2, 3, 1, 3);
        lot(new int[] {30, 20, 60}, 20, 1, 2, 3, 0, 1, 1, 3);
        lot(new int[] {21, 30, 60}, 840, 41, 20, 41, 14, 41, 7, 41);
        lot(new int[] {19, 30, 60}, 20, 1, 0, 1, 2, 3, 1, 3);
        lot(new int[] {60, 1, 60, 1}, 30, 1, 1, 2, 0, 1, 1, 2, 0, 1);
        lot(new int[] {30, 60, 30, 60}, 30, 1, 0, 1, 1, 2, 0, 1, 1, 2);
        lot(new int[] {40, 60, 60, 60}, 40, 1, 0, 1, 1, 3, 1, 3, 1, 3);
        lot(new int[] {41, 60, 60, 60}, 2460, 61, 20, 61, 41, 183, 41, 183, 41, 183);
    }

    private void lotRefusals() {
        check.promise(29, "LOT: VALUE, the upper WHOLE or the lower, in lowest terms (0 by 1).");
        lot(new int[] {4, 12}, 3, 1, 3, 4, 1, 4);
        lot(new int[] {7}, 0, 1, 1, 1);
        check.promise(29, "-1: 1 (no COLLEGE); 6 (no trams).");
        for (boolean lower : new boolean[] {false, true}) {
            check.refuses(SecondPaper::new, "value(" + lower + ")", 1, x -> x.value(lower));
            check.refuses(of(BASE + ONE), "value(" + lower + ")", 6, x -> x.value(lower));
        }
        check.promise(30, "How likely the giver takes a tram by it, likewise.");
        lot(new int[] {60, 1, 20, 30}, 20, 1, 1, 3, 0, 1, 0, 1, 2, 3);
        check.promise(30, "-1: 1.");
        for (boolean lower : new boolean[] {false, true}) {
            check.refuses(SecondPaper::new, "lot(0, " + lower + ")", 1, x -> x.lot(0, lower));
            check.refuses(of(BASE + ONE), "lot(0, " + lower + ")", 1, x -> x.lot(0, lower));
            check.refuses(of(BASE + ONE + trams(1, 1, 1, 1)), "lot(4, " + lower + ")", 1, x -> x.lot(4, lower));
            for (int wrong : WRONG) {
                check.refuses(of(BASE + ONE + trams(1)), "lot(" + wrong + ", " + lower + ")", 1, x -> x.lot(wrong, lower));
            }
        }
    }

    // ---- CHOICE

    private static String people(int count) {
        StringBuilder text = new StringBuilder();
        for (int p = 0; p < count; p++) {
            text.append(";person p").append((char) ('a' + p)).append(" plain room 1 wakes 0");
        }
        return text.toString();
    }

    private void choice(String text, int day, int rests, int... first) {
        check.answers(of(text), "rests(" + day + ")", rests, x -> x.rests(day));
        for (int p = 0; p < first.length; p++) {
            int who = p;
            check.answers(of(text), "restOf(" + day + ", " + p + ")", first[p], x -> x.restOf(day, who));
        }
    }

    private void shares() {
        check.term("III", "CHOICE of trams on a day: each person takes one: SHARE: 60 for each giver who takes that tram on that day,"
            + " by how many persons are on it, downwards.");
        String two = BASE + people(2) + trams(1, 1);
        choice(two + ";takes m xa 0;takes n xa 0;takes o xb 0", 0, 3, 0, 0);
        choice(two + ";takes m xa 0;takes n xb 0", 0, 2, 0, 1);
        choice(two + ";takes m xb 0", 0, 1, 1, 1);
        choice(two + ";takes m xb 0", 1, 4, 0, 0);
        choice(two + ";takes m xa 5;takes n xb 6;takes o xb 6", 6, 1, 1, 1);
        // What people ride is nothing to it, nor what the trams are worth.
        choice(two + ";takes m xb 0;rides pa xa 0;rides pb xa 0", 0, 1, 1, 1);
        choice(BASE + people(2) + trams(60, 1) + ";takes m xb 0", 0, 1, 1, 1);
    }

    private void rests() {
        check.term("III", "REST: by which nobody's SHARE could be greater alone.");
        check.promise(31, "How many RESTS the CHOICE on a day has.");
        check.promise(32, "The tram of a person in the first (by persons' trams, the first person's counting most);");
        // Without givers all are; as many as four trams for five people make.
        choice(BASE + people(5) + trams(1, 1, 1, 1), 0, 1024, 0, 0, 0, 0, 0);
        choice(BASE + people(5) + trams(1), 6, 1, 0, 0, 0, 0, 0);
        choice(BASE + people(1) + trams(1, 1, 1, 1), 6, 4, 0);
        choice(BASE + people(1) + trams(1, 1, 1, 1) + ";takes o xd 6", 6, 1, 3);
        choice(BASE + people(1) + trams(1, 1, 1) + ";takes o xc 6;takes n xb 6", 6, 2, 1);
        // Two givers on one tram, one on another: three of five people there are at rest, as are four.
        choice(BASE + people(5) + trams(1, 1) + ";takes m xb 2;takes n xb 2;takes o xa 2", 2, 15, 0, 0, 1, 1, 1);
        choice(BASE + people(5) + trams(1, 1, 1, 1) + ";takes m xb 2;takes n xc 2;takes o xd 2", 2, 90, 1, 1, 2, 2, 3);
        choice(BASE + people(3) + trams(1, 1, 1) + ";takes m xa 2;takes n xb 2;takes o xc 2", 2, 6, 0, 1, 2);
    }

    private void restRefusals() {
        String none = BASE + people(2);
        String some = none + trams(1, 1);
        check.promise(31, "NONE: 1 (no COLLEGE); 6 (no trams); 2.");
        check.refuses(SecondPaper::new, "rests(0)", 1, x -> x.rests(0));
        check.refuses(of(none), "rests(0)", 6, x -> x.rests(0));
        check.refuses(of(none), "rests(7) without trams", 6, x -> x.rests(7));
        check.refuses(of(some), "rests(7)", 2, x -> x.rests(7));
        check.refuses(of(some.replace("days 7", "days 2")), "rests(2)", 2, x -> x.rests(2));
        check.answers(of(some.replace("days 7", "days 2")), "rests(1)", 4, x -> x.rests(1));
        check.promise(32, "-2 there is none.");
        // There always is one: it can only be said that no text of these has none.
        for (String givers : new String[] {"", ";takes m xa 0", ";takes m xa 0;takes n xb 0", ";takes m xb 0;takes n xb 0;takes o xb 0"}) {
            check.is("rests(0)" + givers, Check.told(some + givers).rests(0) > 0, true);
            check.is("restOf(0, 0)" + givers, Check.told(some + givers).restOf(0, 0) >= 0, true);
        }
        check.promise(32, "NONE: 1; 6; 2.");
        check.refuses(SecondPaper::new, "restOf(0, 0)", 1, x -> x.restOf(0, 0));
        check.refuses(of(none), "restOf(0, 0)", 6, x -> x.restOf(0, 0));
        check.refuses(of(none), "restOf(7, 0) without trams", 6, x -> x.restOf(7, 0));
        check.refuses(of(none), "restOf(7, 2) without trams", 1, x -> x.restOf(7, 2));
        check.refuses(of(some), "restOf(7, 0)", 2, x -> x.restOf(7, 0));
        check.refuses(of(some), "restOf(7, 2)", 1, x -> x.restOf(7, 2));
        check.refuses(of(some), "restOf(0, 2)", 1, x -> x.restOf(0, 2));
        for (int wrong : WRONG) {
            check.refuses(of(some), "rests(" + wrong + ")", 2, x -> x.rests(wrong));
            check.refuses(of(some), "restOf(" + wrong + ", 0)", 2, x -> x.restOf(wrong, 0));
            check.refuses(of(some), "restOf(0, " + wrong + ")", 1, x -> x.restOf(0, wrong));
        }
    }

    // ---- LIMIT

    /** Exams of a college in which NEAR is 0 for a, 1 for b, 50 for c and 100 for d. */
    private static String exams(String... exams) {
        StringBuilder text = new StringBuilder("college days 2 limit 0;thing a dead weighs 0;thing b dead weighs 1;thing c dead weighs 50;thing d live weighs 50"
            + ";person p plain room 9 wakes 0;person q plain room 9 wakes 49;person s plain room 9 wakes 99;tram x crowd 0 worth 1"
            + ";giver m skill 0;giver n skill 60;takes n x 0;rides q x 0;rides p x 0");
        for (String exam : exams) {
            text.append(";exam m ").append(exam.substring(0, 3)).append(" x ").append(exam.substring(4));
        }
        return text.toString();
    }

    private void limit(int least, int most, String... exams) {
        check.answers(of(exams(exams)), "limit(false)", least, x -> x.limit(false));
        check.answers(of(exams(exams)), "limit(true)", most, x -> x.limit(true));
    }

    private void limits() {
        check.term("III", "LIMIT of exams: NEAR (nobody having anything) of those caught is above it, of those free isn't: the least, the most such (0 .. 100).");
        check.promise(33, "The least LIMIT (or, most, the greatest);");
        limit(0, 100);
        limit(0, 100, "a p free");
        limit(1, 100, "b p free");
        limit(100, 100, "d s free");
        limit(0, 99, "d s caught");
        limit(0, 0, "b p caught");
        limit(0, 0, "a p free", "b p caught");
        limit(1, 48, "b p free", "a q caught");
        limit(49, 49, "a q free", "b q caught");
        limit(50, 98, "b q free", "a s caught", "a p free", "d s caught");
        limit(49, 49, "a q free", "b q caught", "a q free", "b q caught", "c p caught", "a p free", "b p free", "d q caught");
        // By giver and tram, too: n has skill 60, y a crowd of 9.
        check.answers(of(exams() + ";exam n a s x free"), "limit(false) of n", 39, x -> x.limit(false));
        check.answers(of(exams() + ";tram y crowd 9 worth 1;exam n a s y free"), "limit(false) of n on y", 30, x -> x.limit(false));
        check.answers(of(exams() + ";tram y crowd 9 worth 1;exam m a s y caught"), "limit(true) of m on y", 89, x -> x.limit(true));
        SecondPaper x = Check.told(exams("a q free", "b q caught"));
        x.give(1, 0, 1);
        check.fine(x, "nobody having anything", x.limit(false), 49);
        check.fine(x, "nobody having anything", x.limit(true), 49);
        check.promise(33, "-2 none.");
        limit(-2, -2, "a p caught");
        limit(-2, -2, "a q free", "a q caught");
        limit(-2, -2, "b q free", "a q caught");
        limit(-2, -2, "d s free", "d s caught");
    }

    private void limitRefusals() {
        check.promise(33, "NONE: 1 (no COLLEGE).");
        check.refuses(SecondPaper::new, "limit(true)", 1, x -> x.limit(true));
        check.refuses(SecondPaper::new, "limit(false)", 1, x -> x.limit(false));
    }

    // ---- DARE

    private void dares() {
        check.term("III", "DARE: with a live thing each step goes wrong with a chance in a hundred: all is lost then;"
            + " one stops behind n steps (0 .. 8) with n honours: the n of greatest MEAN, the least.");
        check.promise(34, "DARE with so many in a hundred (0 .. 100).");
        // The last chance for each n, and the first for the next; 20, 25 and 50 make two alike.
        int[][] due = {{0, 8}, {1, 8}, {11, 8}, {12, 8}, {13, 7}, {14, 7}, {15, 6}, {16, 6}, {17, 5}, {19, 5}, {20, 4}, {24, 4}, {25, 3}, {33, 3},
            {34, 2}, {49, 2}, {50, 1}, {51, 1}, {99, 1}, {100, 0}};
        for (int[] row : due) {
            check.answers(Calls::paper, "dare(" + row[0] + ")", row[1], x -> x.dare(row[0]));
        }
    }

    private void means() {
        check.promise(35, "Its MEAN, likewise.");
        long[][] due = {{0, 8, 1}, {100, 0, 1}, {99, 1, 100}, {50, 1, 2}, {25, 81, 64}, {20, 1024, 625}, {1, 9227446944279201L, 1250000000000000L}};
        for (long[] row : due) {
            int chance = (int) row[0];
            check.answers(Calls::paper, "honours(" + chance + ", false)", row[1], x -> x.honours(chance, false));
            check.answers(Calls::paper, "honours(" + chance + ", true)", row[2], x -> x.honours(chance, true));
        }
        SecondPaper x = Calls.paper();
        for (int chance = 0; chance <= 100; chance++) {
            int n = x.dare(chance);
            BigInteger upper = BigInteger.valueOf(100 - chance).pow(n).multiply(BigInteger.valueOf(n));
            BigInteger lower = BigInteger.valueOf(100).pow(n);
            BigInteger like = upper.gcd(lower);
            check.fine(x, "honours(" + chance + ", false)", x.honours(chance, false), upper.divide(like).longValueExact());
            check.fine(x, "honours(" + chance + ", true)", x.honours(chance, true), lower.divide(like).longValueExact());
        }
    }

    private void dareRefusals() {
        for (int wrong : new int[] {-1, 101, Integer.MIN_VALUE, Integer.MAX_VALUE}) {
            check.promise(34, "NONE: 1 (no COLLEGE); 2.");
            check.refuses(Calls::paper, "dare(" + wrong + ")", 2, x -> x.dare(wrong));
            check.refuses(SecondPaper::new, "dare(" + wrong + ")", 1, x -> x.dare(wrong));
            check.promise(35, "-1: likewise.");
            check.refuses(Calls::paper, "honours(" + wrong + ", false)", 2, x -> x.honours(wrong, false));
            check.refuses(Calls::paper, "honours(" + wrong + ", true)", 2, x -> x.honours(wrong, true));
            check.refuses(SecondPaper::new, "honours(" + wrong + ", true)", 1, x -> x.honours(wrong, true));
        }
        check.promise(34, "NONE: 1 (no COLLEGE); 2.");
        check.refuses(SecondPaper::new, "dare(0)", 1, x -> x.dare(0));
        check.promise(35, "-1: likewise.");
        check.refuses(SecondPaper::new, "honours(0, false)", 1, x -> x.honours(0, false));
    }
}
