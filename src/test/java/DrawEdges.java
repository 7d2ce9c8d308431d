import java.util.function.Supplier;

/** The edges of PLAN BY DRAWS, and of promises 36 and 37. */
final class DrawEdges {
    private static final int[] WRONG = {-1, 65537, Integer.MIN_VALUE, Integer.MAX_VALUE};

    private final Check check;

    DrawEdges(Check check) {
        this.check = check;
    }

    void run() {
        belowNear();
        seeds();
        hindered();
        whatIsCaughtStays();
        drawn();
        caught();
    }

    private static Supplier<SecondPaper> of(String text) {
        return () -> Check.told(text);
    }

    /** NEAR is what the people wake, of one thing each; limit is 0, as draws don't ask for it. */
    private static String plan(int p, int q, int r, String gifts) {
        return "college days 2 limit 0;thing a dead weighs 0;thing b dead weighs 0;thing c dead weighs 0;person p plain room 1 wakes " + p
            + ";person q plain room 1 wakes " + q + ";person r plain room 1 wakes " + r + ";person s guard room 1 wakes 99;tram x crowd 0 worth 1"
            + ";giver m skill 0;giver n skill 0;giver o skill 0;rides p x 0;rides q x 0;rides r x 0;rides s x 0;takes m x 0;takes n x 0" + gifts;
    }

    private void draws(int given, int caughtM, int caughtN, int seed, String text) {
        check.answers(of(text), "drawn(" + seed + ")", given, x -> x.drawn(seed));
        check.answers(of(text), "caught(0, " + seed + ", 1)", caughtM, x -> x.caught(0, seed, 1));
        check.answers(of(text), "caught(1, " + seed + ", 1)", caughtN, x -> x.caught(1, seed, 1));
        check.answers(of(text), "caught(2, " + seed + ", 1)", 0, x -> x.caught(2, seed, 1));
    }

    private void belowNear() {
        check.term("III", "PLAN BY DRAWS: each GIFT that isn't not together, gone, full: CAUGHT by a DRAW mod 100 below NEAR");
        // SEED 0 becomes 74, 5,624, 28,652.
        String three = ";gives m a p 0;gives m b q 0;gives n c r 0";
        draws(3, 0, 0, 0, plan(74, 24, 52, three));
        draws(2, 1, 0, 0, plan(75, 24, 52, three));
        draws(2, 1, 0, 0, plan(74, 25, 52, three));
        draws(2, 0, 1, 0, plan(74, 24, 53, three));
        draws(0, 2, 1, 0, plan(99, 99, 99, three));
        draws(3, 0, 0, 0, plan(0, 0, 0, three));
        // NEAR 100: every DRAW is below it. NEAR 0: none is.
        for (int seed : new int[] {0, 1, 74, 65535, 65536}) {
            draws(0, 1, 0, seed, plan(0, 0, 0, ";gives m a s 0"));
            draws(1, 0, 0, seed, plan(0, 0, 0, ";gives m a p 0"));
        }
    }

    private void seeds() {
        check.term("III", "(SEED becomes (75 times SEED and 74) mod 65,537).");
        // 65,536 becomes itself again, of which the DRAW is 36.
        draws(1, 0, 0, 65536, plan(36, 0, 0, ";gives m a p 0"));
        draws(0, 1, 0, 65536, plan(37, 0, 0, ";gives m a p 0"));
        draws(0, 3, 0, 65536, plan(37, 37, 37, ";gives m a p 0;gives m b q 0;gives m c r 0"));
        draws(3, 0, 0, 65536, plan(36, 36, 36, ";gives m a p 0;gives m b q 0;gives m c r 0"));
        // 873 becomes 65,549, which is 12; 874 becomes 87; 65,535 becomes 65,461.
        draws(1, 0, 0, 873, plan(12, 0, 0, ";gives m a p 0"));
        draws(0, 1, 0, 873, plan(13, 0, 0, ";gives m a p 0"));
        draws(1, 0, 0, 874, plan(87, 0, 0, ";gives m a p 0"));
        draws(0, 1, 0, 874, plan(88, 0, 0, ";gives m a p 0"));
        draws(1, 0, 0, 65535, plan(61, 0, 0, ";gives m a p 0"));
        draws(0, 1, 0, 65535, plan(62, 0, 0, ";gives m a p 0"));
        draws(1, 0, 0, 0, plan(74, 0, 0, ";gives m a p 0"));
        draws(0, 1, 0, 0, plan(75, 0, 0, ";gives m a p 0"));
        SecondPaper x = Check.told(plan(50, 40, 60, ";gives m a p 0;gives m b q 0;gives m c r 0"));
        for (int seed = 0; seed <= 65536; seed += 8192) {
            int next = seed;
            int given = 0;
            for (int near : new int[] {50, 40, 60}) {
                next = (int) ((75L * next + 74) % 65537);
                given += next % 100 < near ? 0 : 1;
            }
            check.fine(x, "drawn(" + seed + ")", x.drawn(seed), given);
        }
    }

    private void hindered() {
        check.term("III", "PLAN BY DRAWS: each GIFT that isn't not together, gone, full:");
        // Between two that draw, one that is not together, gone, full draws nothing.
        for (String between : new String[] {";gives o b q 0", ";gives m a q 0", ";gives n b p 0", ";gives m b q 1"}) {
            draws(2, 0, 0, 0, plan(74, 24, 0, ";gives m a p 0" + between + ";gives n b q 0"));
            draws(1, 0, 1, 0, plan(74, 25, 0, ";gives m a p 0" + between + ";gives n b q 0"));
        }
        // By days: what is told first comes second.
        String days = plan(74, 24, 0, ";rides q x 1;takes n x 1;gives n b q 1;gives m a p 0");
        draws(2, 0, 0, 0, days);
        draws(1, 0, 1, 0, days.replace("wakes 24", "wakes 25"));
        draws(1, 1, 0, 0, days.replace("wakes 74", "wakes 75"));
        // What is had counts for NEAR.
        String had = plan(19, 0, 0, ";gives m a p 0;gives n b p 0").replace("p plain room 1", "p plain room 2");
        draws(2, 0, 0, 0, had);
        draws(1, 0, 1, 0, had.replace("wakes 19", "wakes 20"));
    }

    private void whatIsCaughtStays() {
        check.term("III", "CAUGHT by a DRAW mod 100 below NEAR");
        // 74 becomes 5,624, 28,652, 51,790: twice below 60, then not; later it is gone.
        String again = plan(60, 0, 0, ";gives m a p 0;gives m a p 0;gives m a p 0;gives m a p 0");
        draws(1, 2, 0, 74, again);
        // Whoever is caught may be so again; a score has nothing to do with it.
        draws(0, 4, 0, 74, again.replace("wakes 60", "wakes 99"));
        SecondPaper x = Check.told(again);
        x.give(0, 0, 0);
        x.sew(0);
        x.day();
        check.fine(x, "drawn(74), whatever ACTS were", x.drawn(74), 1);
        check.fine(x, "how often CAUGHT by ACTS", x.giver(0, 2), 1);
    }

    private void drawn() {
        check.promise(36, "PLAN BY DRAWS by a SEED (0 .. 65,536): how many are GIVEN.");
        String none = plan(0, 0, 0, "");
        check.answers(of(none), "drawn(0) without GIFTS", 0, x -> x.drawn(0));
        check.answers(of(none), "drawn(65536) without GIFTS", 0, x -> x.drawn(65536));
        String twelve = plan(0, 0, 0, ";gives m a p 0;gives m b q 0" + ";gives m a p 0".repeat(9) + ";gives m c r 0");
        check.answers(of(twelve), "drawn(0) of twelve", 3, x -> x.drawn(0));
        check.answers(of(twelve), "drawn(65536) of twelve", 3, x -> x.drawn(65536));
        check.promise(36, "NONE: 1 (no COLLEGE); 2.");
        for (int wrong : WRONG) {
            check.refuses(of(twelve), "drawn(" + wrong + ")", 2, x -> x.drawn(wrong));
            check.refuses(SecondPaper::new, "drawn(" + wrong + ")", 1, x -> x.drawn(wrong));
        }
        check.refuses(SecondPaper::new, "drawn(0)", 1, x -> x.drawn(0));
    }

    private void caught() {
        check.promise(37, "How often a giver is CAUGHT in n of them (1 .. 50), SEED going on.");
        String always = plan(0, 0, 0, ";gives m a s 0;gives n b s 0;gives m c s 0");
        for (int n : new int[] {1, 2, 49, 50}) {
            check.answers(of(always), "caught(0, 0, " + n + ")", 2 * n, x -> x.caught(0, 0, n));
            check.answers(of(always), "caught(1, 65536, " + n + ")", n, x -> x.caught(1, 65536, n));
            check.answers(of(always), "caught(2, 0, " + n + ")", 0, x -> x.caught(2, 0, n));
        }
        // Twelve in each of fifty, and none with none.
        String most = plan(0, 0, 0, ";gives m a s 0".repeat(12));
        check.answers(of(most), "caught(0, 0, 50) of twelve", 600, x -> x.caught(0, 0, 50));
        check.answers(of(plan(0, 0, 0, "")), "caught(0, 0, 50) of none", 0, x -> x.caught(0, 0, 50));
        // From SEED 0 one DRAW a plan: 74, 24, 52, 90, 41.
        String one = plan(60, 0, 0, ";gives m a p 0");
        int[] due = {0, 1, 2, 2, 3};
        for (int n = 1; n <= 5; n++) {
            int runs = n;
            check.answers(of(one), "caught(0, 0, " + n + ")", due[n - 1], x -> x.caught(0, 0, runs));
        }
        // Each of them from the beginning: three tries from SEED 74, then three that all fail.
        String tries = plan(60, 0, 0, ";gives m a p 0;gives m a p 0;gives m a p 0");
        check.answers(of(tries), "caught(0, 74, 1)", 2, x -> x.caught(0, 74, 1));
        check.answers(of(tries), "caught(0, 74, 2)", 5, x -> x.caught(0, 74, 2));
        check.promise(37, "NONE: 1; 2.");
        for (int wrong : WRONG) {
            check.refuses(of(always), "caught(0, " + wrong + ", 1)", 2, x -> x.caught(0, wrong, 1));
            check.refuses(of(always), "caught(3, " + wrong + ", 1)", 1, x -> x.caught(3, wrong, 1));
        }
        for (int wrong : new int[] {0, -1, 51, Integer.MIN_VALUE, Integer.MAX_VALUE}) {
            check.refuses(of(always), "caught(0, 0, " + wrong + ")", 2, x -> x.caught(0, 0, wrong));
            check.refuses(of(always), "caught(3, 0, " + wrong + ")", 1, x -> x.caught(3, 0, wrong));
        }
        for (int wrong : new int[] {3, -1, -2, Integer.MIN_VALUE, Integer.MAX_VALUE}) {
            check.refuses(of(always), "caught(" + wrong + ", 0, 1)", 1, x -> x.caught(wrong, 0, 1));
        }
    }
}
