/** Promises 17 to 22: planned, planHas, planScore, first, judge, amiss. */
public final class PlanTest {
    private static final Check CHECK = new Check();
    private static final String BASE = "college days 3 limit 30"
        + ";thing e egg weighs 5;thing l live weighs 10;thing d dead weighs 2;thing c dead weighs 50"
        + ";person a plain room 1 wakes 30;person b plain room 2 wakes 20;tram x crowd 10 worth 1"
        + ";giver m skill 5;giver n skill 15"
        + ";rides a x 0;rides a x 1;rides b x 1;rides b x 2;takes m x 0;takes m x 1;takes n x 1;takes n x 2";
    private static final String PLAN = ";gives n l b 2;gives m e a 0;gives m d a 1;gives m e b 1;gives m l b 0"
        + ";gives m l b 1;gives n l b 2;gives m c b 1;gives n d b 2";

    public static void main(String[] args) {
        dayByDay();
        actsChangeNothing();
        withoutPlan();
        found();
        scores();
        CHECK.end();
    }

    private static void dayByDay() {
        SecondPaper x = CHECK.college(BASE + PLAN, 4);
        int[] due = {3, 0, 4, 3, 2, 0, 3, 1, 0};
        for (int k = 0; k < due.length; k++) {
            CHECK.fine(x, "planned(" + k + ")", x.planned(k), due[k]);
        }
        CHECK.refused(x, "planned(9)", x.planned(9), 1);
        CHECK.refused(x, "planned(-1)", x.planned(-1), 1);
        int[][] has = {{1, 1, 1}, {0, 2, 6}};
        int[][] score = {{2, 0, 0}, {0, 0, 1}};
        for (int day = 0; day < 3; day++) {
            for (int i = 0; i < 2; i++) {
                CHECK.fine(x, "planHas(" + i + ", " + day + ")", x.planHas(i, day), has[i][day]);
                CHECK.fine(x, "planScore(" + i + ", " + day + ")", x.planScore(i, day), score[i][day]);
            }
        }
        CHECK.refused(x, "planHas(2, 0)", x.planHas(2, 0), 1);
        CHECK.refused(x, "planHas(2, 3)", x.planHas(2, 3), 1);
        CHECK.refused(x, "planHas(-1, 0)", x.planHas(-1, 0), 1);
        CHECK.refused(x, "planHas(0, 3)", x.planHas(0, 3), 2);
        CHECK.refused(x, "planHas(0, -1)", x.planHas(0, -1), 2);
        CHECK.refused(x, "planScore(2, 0)", x.planScore(2, 0), 1);
        CHECK.refused(x, "planScore(-1, -1)", x.planScore(-1, -1), 1);
        CHECK.refused(x, "planScore(0, 3)", x.planScore(0, 3), 2);
        CHECK.refused(x, "planScore(0, -1)", x.planScore(0, -1), 2);
        CHECK.fine(x, "first()", x.first(), 1);
        CHECK.fine(x, "judge()", x.judge(), 0);
        CHECK.fine(x, "amiss()", x.amiss(), -2);
        CHECK.fine(x, "nobody has it NOW", x.thing(0, 2), -2);
    }

    private static void actsChangeNothing() {
        SecondPaper x = CHECK.college(BASE + PLAN, 4);
        x.give(0, 2, 0);
        x.sew(1);
        x.sew(1);
        x.day();
        CHECK.fine(x, "planned(1)", x.planned(1), 0);
        CHECK.fine(x, "planned(5)", x.planned(5), 0);
        CHECK.fine(x, "planHas(1, 2)", x.planHas(1, 2), 6);
        CHECK.fine(x, "planScore(0, 0)", x.planScore(0, 0), 2);
        CHECK.fine(x, "first()", x.first(), 1);
        CHECK.fine(x, "a's things NOW", x.person(0, 3), 4);
        CHECK.is("day NOW", x.size(10), 1);
    }

    private static void withoutPlan() {
        SecondPaper x = CHECK.college(BASE, 4);
        CHECK.refused(x, "planned(0)", x.planned(0), 1);
        CHECK.fine(x, "planHas(0, 2)", x.planHas(0, 2), 0);
        CHECK.fine(x, "planScore(1, 2)", x.planScore(1, 2), 0);
        CHECK.fine(x, "first()", x.first(), 0);
        CHECK.fine(x, "judge()", x.judge(), -2);
        CHECK.fine(x, "amiss()", x.amiss(), -2);
    }

    private static void found() {
        SecondPaper x = CHECK.college(BASE + PLAN + ";found e a;found l b;found c a;found d a", 4);
        CHECK.fine(x, "with the college, but found", x.amiss(), 3);
        SecondPaper y = CHECK.college(BASE + PLAN + ";found d b;found l a;found e b", 4);
        CHECK.fine(y, "somebody else has it, the first as told", y.amiss(), 1);
        SecondPaper z = CHECK.college(BASE + PLAN + ";found d b;found e a", 4);
        CHECK.fine(z, "all so", z.amiss(), -2);
    }

    private static void scores() {
        // Caught is no fault of the plan; a thing that stays with the college can be given later.
        SecondPaper x = CHECK.college(BASE + ";gives m c b 1;gives n e b 1;gives m d a 0;gives m l b 1", 4);
        CHECK.fine(x, "judge()", x.judge(), -2);
        CHECK.fine(x, "planned(0)", x.planned(0), 1);
        CHECK.fine(x, "planned(3)", x.planned(3), 0);
        CHECK.fine(x, "planScore(0, 0)", x.planScore(0, 0), 1);
        CHECK.fine(x, "planScore(0, 1)", x.planScore(0, 1), 4);
        CHECK.fine(x, "planScore(1, 1)", x.planScore(1, 1), 2);
        CHECK.fine(x, "first()", x.first(), 0);
        SecondPaper like = CHECK.college(BASE + ";gives n d b 2;gives m c a 0;gives m c a 1;gives m d b 1", 4);
        CHECK.fine(like, "planned(0)", like.planned(0), 3);
        CHECK.fine(like, "planned(3)", like.planned(3), 0);
        CHECK.fine(like, "first()", like.first(), 0);
        SecondPaper tie = CHECK.college(BASE + ";gives n d b 2;gives m c a 0", 4);
        CHECK.fine(tie, "first()", tie.first(), 1);
        SecondPaper both = CHECK.college(BASE.replace("thing c dead weighs 50", "thing c dead weighs 2")
            + ";gives n d b 2;gives m c a 0", 4);
        CHECK.fine(both, "first() of like ones", both.first(), 0);
        CHECK.fine(both, "judge()", both.judge(), -2);
        SecondPaper second = CHECK.college(BASE + ";gives m d a 0;gives n e a 0;gives n e b 1", 4);
        CHECK.fine(second, "judge()", second.judge(), 1);
    }
}
