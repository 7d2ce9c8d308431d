import java.util.function.Supplier;

/** The edges of promises 17 to 22: planned, planHas, planScore, first, judge, amiss. */
final class PlanEdges {
    private static final int[] WRONG = {-1, -2, Integer.MIN_VALUE, Integer.MAX_VALUE};

    /** With room for all, and nobody who notices anything. */
    private static final String BASE = "college days 7 limit 100;thing a dead weighs 0;thing b egg weighs 0;thing c live weighs 0;thing d dead weighs 50"
        + ";person p plain room 9 wakes 0;person q plain room 9 wakes 0;person r plain room 9 wakes 0;person s guard room 9 wakes 50"
        + ";person t plain room 0 wakes 0;tram x crowd 0 worth 1;giver m skill 0;giver n skill 0;giver o skill 0"
        + ";rides p x 0;rides s x 0;takes m x 0;takes o x 0;rides p x 6;rides s x 6;rides t x 6;takes m x 6;takes n x 6;takes o x 6";

    private final Check check;

    PlanEdges(Check check) {
        this.check = check;
    }

    void run() {
        planned();
        planHas();
        planScore();
        first();
        judge();
        amiss();
    }

    private static Supplier<SecondPaper> of(String text) {
        return () -> Check.told(text);
    }

    private void planned() {
        check.promise(17, "What comes of a GIFT of THE PLAN, as for would().");
        String text = BASE.replace("limit 100", "limit 99") + ";gives n a p 6;gives m a p 0;gives m b s 0;gives o c t 6;gives n c q 0";
        int[] due = {3, 0, 1, 4, 2};
        for (int k = 0; k < 5; k++) {
            int gift = k;
            check.answers(of(text), "planned(" + k + ")", due[k], x -> x.planned(gift));
        }
        check.promise(17, "NONE: 1.");
        String most = BASE + ";gives m a p 6".repeat(11) + ";gives m b p 6";
        check.answers(of(most), "planned(11), the last of twelve", 0, x -> x.planned(11));
        check.answers(of(most), "planned(10)", 3, x -> x.planned(10));
        check.refuses(of(most), "planned(12)", 1, x -> x.planned(12));
        check.refuses(of(BASE), "planned(0) of none", 1, x -> x.planned(0));
        for (int wrong : WRONG) {
            check.refuses(of(most), "planned(" + wrong + ")", 1, x -> x.planned(wrong));
        }
        check.refuses(of(text), "planned(5)", 1, x -> x.planned(5));
    }

    private void planHas() {
        check.promise(18, "What a person has behind a day by it, as bits.");
        String text = BASE + ";gives m d p 6;gives m a p 0;gives o c s 0;gives n b p 6";
        int[][] due = {{1, 1, 11}, {0, 0, 0}, {0, 0, 0}, {4, 4, 4}, {0, 0, 0}};
        for (int p = 0; p < 5; p++) {
            for (int i = 0; i < 3; i++) {
                int who = p;
                int day = new int[] {0, 5, 6}[i];
                check.answers(of(text), "planHas(" + p + ", " + day + ")", due[p][i], x -> x.planHas(who, day));
            }
        }
        check.answers(of(BASE + ";gives m a p 0;gives m b p 0;gives m c p 0;gives m d p 0"), "planHas of all", 15, x -> x.planHas(0, 0));
        check.answers(of(BASE), "planHas without a plan", 0, x -> x.planHas(0, 6));
        check.promise(18, "NONE: 1; 2.");
        for (int wrong : WRONG) {
            check.refuses(of(text), "planHas(" + wrong + ", 0)", 1, x -> x.planHas(wrong, 0));
            check.refuses(of(text), "planHas(" + wrong + ", 7)", 1, x -> x.planHas(wrong, 7));
            check.refuses(of(text), "planHas(0, " + wrong + ")", 2, x -> x.planHas(0, wrong));
        }
        check.refuses(of(text), "planHas(5, 0)", 1, x -> x.planHas(5, 0));
        check.refuses(of(text), "planHas(5, 7)", 1, x -> x.planHas(5, 7));
        check.refuses(of(text), "planHas(0, 7)", 2, x -> x.planHas(0, 7));
        String short2 = "college days 2 limit 0;thing a dead weighs 0;person p plain room 0 wakes 0;giver m skill 0";
        check.answers(of(short2), "planHas(0, 1)", 0, x -> x.planHas(0, 1));
        check.refuses(of(short2), "planHas(0, 2)", 2, x -> x.planHas(0, 2));
        check.answers(of(short2), "planScore(0, 1)", 0, x -> x.planScore(0, 1));
        check.refuses(of(short2), "planScore(0, 2)", 2, x -> x.planScore(0, 2));
    }

    private void planScore() {
        check.promise(19, "SCORE of a giver behind a day by it.");
        String text = BASE.replace("limit 100", "limit 99") + ";gives n d s 6;gives m a p 0;gives m b p 6;gives o c p 0;gives n a p 6;gives o d s 6";
        int[][] due = {{1, 1, 3}, {0, 0, 0}, {4, 4, 0}};
        for (int g = 0; g < 3; g++) {
            for (int i = 0; i < 3; i++) {
                int who = g;
                int day = new int[] {0, 5, 6}[i];
                check.answers(of(text), "planScore(" + g + ", " + day + ")", due[g][i], x -> x.planScore(who, day));
            }
        }
        check.answers(of(BASE + ";gives n c p 6;gives n b p 6;gives n a p 6;gives n d s 6"), "planScore of all", 8, x -> x.planScore(1, 6));
        check.promise(19, "NONE: 1; 2.");
        for (int wrong : WRONG) {
            check.refuses(of(text), "planScore(" + wrong + ", 0)", 1, x -> x.planScore(wrong, 0));
            check.refuses(of(text), "planScore(" + wrong + ", 7)", 1, x -> x.planScore(wrong, 7));
            check.refuses(of(text), "planScore(0, " + wrong + ")", 2, x -> x.planScore(0, wrong));
        }
        check.refuses(of(text), "planScore(3, 0)", 1, x -> x.planScore(3, 0));
        check.refuses(of(text), "planScore(3, 7)", 1, x -> x.planScore(3, 7));
        check.refuses(of(text), "planScore(0, 7)", 2, x -> x.planScore(0, 7));
    }

    private void first() {
        check.promise(20, "The giver of greatest SCORE behind it, the first such.");
        check.answers(of(BASE), "all 0", 0, x -> x.first());
        check.answers(of(BASE.replace("limit 100", "limit 99") + ";gives m a s 0;gives m a s 0;gives m b s 6"), "all 0, one being caught", 0, x -> x.first());
        check.answers(of(BASE + ";gives n a p 6;gives o d p 6"), "like ones", 1, x -> x.first());
        check.answers(of(BASE + ";gives m a p 6;gives o b p 6"), "the last is greatest", 2, x -> x.first());
        check.answers(of(BASE + ";gives n b p 6;gives o a p 6;gives m d p 6"), "the second is greatest", 1, x -> x.first());
        // Behind the last day, not an earlier one: m is caught on day 6.
        check.answers(of(BASE.replace("limit 100", "limit 99") + ";gives m c p 0;gives o a p 0;gives m d s 6"), "behind all of it", 2, x -> x.first());
        SecondPaper x = Check.told(BASE + ";gives o a p 6");
        x.give(0, 2, 0);
        check.fine(x, "by THE PLAN, not by ACTS", x.first(), 2);
        check.promise(20, "NONE: 1 (no COLLEGE).");
        check.refuses(SecondPaper::new, "first()", 1, SecondPaper::first);
    }

    private void judge() {
        check.promise(21, "The first GIFT, as told, that isn't GIVEN, nor CAUGHT; -2.");
        check.answers(of(BASE), "no GIFTS", -2, x -> x.judge());
        check.answers(of(BASE + ";gives m a p 0"), "GIVEN", -2, x -> x.judge());
        check.answers(of(BASE.replace("limit 100", "limit 99") + ";gives m a s 0"), "CAUGHT", -2, x -> x.judge());
        check.answers(of(BASE + ";gives m a q 0"), "not together", 0, x -> x.judge());
        check.answers(of(BASE + ";gives m a p 0;gives m a p 0"), "gone", 1, x -> x.judge());
        check.answers(of(BASE + ";gives m b p 6;gives m a t 6"), "full", 1, x -> x.judge());
        // As told, though a later one is met earlier by its day.
        check.answers(of(BASE + ";gives m a p 6;gives m a q 0;gives m a p 0"), "as told", 0, x -> x.judge());
        check.answers(of(BASE + ";gives m a p 6" + ";gives m c q 0"), "the second", 1, x -> x.judge());
        StringBuilder twelve = new StringBuilder(BASE.replace("limit 100", "limit 99"));
        for (int k = 0; k < 11; k++) {
            twelve.append(";gives m a s 0");
        }
        check.answers(of(twelve + ";gives n b s 0"), "the last of twelve", 11, x -> x.judge());
        check.answers(of(twelve + ";gives m b s 0"), "none of twelve", -2, x -> x.judge());
        check.promise(21, "NONE: 1 (no COLLEGE).");
        check.refuses(SecondPaper::new, "judge()", 1, SecondPaper::judge);
    }

    private void amiss() {
        check.promise(22, "The first thing found, as told, that the person hasn't behind THE PLAN; -2.");
        String plan = BASE + ";gives m a p 0;gives m d s 6";
        check.answers(of(plan), "nothing found", -2, x -> x.amiss());
        check.answers(of(BASE), "nothing found, nothing planned", -2, x -> x.amiss());
        check.answers(of(BASE + ";gives m b p 0;found b p"), "one found, the other nowhere", -2, x -> x.amiss());
        check.answers(of(plan + ";found a p;found d s"), "all so", -2, x -> x.amiss());
        check.answers(of(plan + ";found d s;found a q"), "somebody else has it", 0, x -> x.amiss());
        check.answers(of(plan + ";found a p;found c p"), "nobody has it", 2, x -> x.amiss());
        check.answers(of(plan + ";found d p;found b p"), "as told, not by things", 3, x -> x.amiss());
        check.answers(of(plan + ";found a p;found d s;found c t;found b t"), "the third of four", 2, x -> x.amiss());
        check.answers(of(BASE + ";found b t"), "without a plan", 1, x -> x.amiss());
        SecondPaper x = Check.told(BASE + ";found a p");
        x.give(0, 0, 0);
        check.fine(x, "by THE PLAN, not by ACTS", x.amiss(), 0);
        check.promise(22, "NONE: 1 (no COLLEGE).");
        check.refuses(SecondPaper::new, "amiss()", 1, SecondPaper::amiss);
    }
}
