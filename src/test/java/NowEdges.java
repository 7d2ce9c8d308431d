import java.util.function.Supplier;

/** The edges of promises 6 to 16: thing, person, giver, rides, takes, meet, near, would, riders, spare, safest. */
final class NowEdges {
    private static final int LOW = Integer.MIN_VALUE;
    private static final int HIGH = Integer.MAX_VALUE;
    private static final int[] WRONG = {-1, -2, LOW, HIGH};

    /** As many of all as there is room for. */
    private static final String FULL = "college days 7 limit 40"
        + ";thing a dead weighs 0;thing b egg weighs 50;thing c live weighs 1;thing d live weighs 2"
        + ";person p plain room 9 wakes 30;person q bishop room 8 wakes 99;person r tailor room 7 wakes 0;person s guard room 0 wakes 20"
        + ";person t tailor room 9 wakes 5;tram w crowd 0 worth 1;tram x crowd 60 worth 60;tram y crowd 1 worth 9;tram z crowd 9 worth 5"
        + ";giver m skill 0;giver n skill 60;giver o skill 1"
        + ";rides p w 0;rides q w 0;rides t w 0;rides t z 6;rides s z 6;rides p x 1;rides r x 1"
        + ";takes m w 0;takes n w 0;takes o w 0;takes m z 6;takes o z 6;takes n x 6;takes m y 2;takes o x 3;takes n x 3";
    /** As few of all as there can be. */
    private static final String LEAST = "college days 2 limit 0;thing a dead weighs 0;person p plain room 0 wakes 0;giver m skill 0";

    private final Check check;

    NowEdges(Check check) {
        this.check = check;
    }

    void run() {
        thing();
        person();
        giver();
        rides();
        takes();
        meet();
        near();
        would();
        riders();
        spare();
        safest();
        safestOfSome();
    }

    private static Supplier<SecondPaper> of(String text) {
        return () -> Check.told(text);
    }

    private void row(String name, int[] due, int what, IntCall call) {
        for (int i = 0; i < due.length; i++) {
            int number = i;
            check.answers(of(FULL), name + "(" + i + ", " + what + ")", due[i], x -> call.of(x, number, what));
        }
    }

    private interface IntCall {
        int of(SecondPaper x, int a, int b);
    }

    /** Refused by 1 for each number below 0 and from count on, whatever the second is; by another for a wrong second. */
    private void refusals(String name, int count, int least, int seconds, int secondTrouble, IntCall call) {
        for (int wrong : WRONG) {
            check.refuses(of(FULL), name + "(" + wrong + ", 0)", 1, x -> call.of(x, wrong, 0));
            check.refuses(of(FULL), name + "(" + wrong + ", " + wrong + ")", 1, x -> call.of(x, wrong, wrong));
            check.refuses(of(FULL), name + "(0, " + wrong + ")", secondTrouble, x -> call.of(x, 0, wrong));
        }
        check.refuses(of(FULL), name + "(" + count + ", 0)", 1, x -> call.of(x, count, 0));
        check.refuses(of(FULL), name + "(" + count + ", " + seconds + ")", 1, x -> call.of(x, count, seconds));
        check.refuses(of(FULL), name + "(0, " + seconds + ")", secondTrouble, x -> call.of(x, 0, seconds));
        check.refuses(of(LEAST), name + "(" + least + ", 0)", 1, x -> call.of(x, least, 0));
    }

    private void thing() {
        check.promise(6, "Of a thing 0 SORT (0 dead, 1 egg, 2 live), 1 what it weighs,");
        row("thing", new int[] {0, 1, 2, 2}, 0, SecondPaper::thing);
        row("thing", new int[] {0, 50, 1, 2}, 1, SecondPaper::thing);
        check.promise(6, "2 who has it NOW (-2 nobody).");
        row("thing", new int[] {-2, -2, -2, -2}, 2, SecondPaper::thing);
        SecondPaper x = Check.told(FULL);
        x.give(1, 3, 4);
        x.give(1, 0, 0);
        check.fine(x, "thing(3, 2)", x.thing(3, 2), 4);
        check.fine(x, "thing(0, 2)", x.thing(0, 2), 0);
        x.undo();
        check.fine(x, "thing(0, 2)", x.thing(0, 2), -2);
        check.promise(6, "NONE: 1.");
        refusals("thing", 4, 1, 3, 1, SecondPaper::thing);
    }

    private void person() {
        check.promise(7, "Of a person 0 KIND (0 plain, 1 bishop, 2 tailor, 3 guard), 1 ROOM NOW, 2 wakes, 3 what the person has NOW, as bits.");
        row("person", new int[] {0, 1, 2, 3, 2}, 0, SecondPaper::person);
        row("person", new int[] {9, 8, 3, 0, 4}, 1, SecondPaper::person);
        row("person", new int[] {30, 99, 0, 20, 5}, 2, SecondPaper::person);
        row("person", new int[] {0, 0, 0, 0, 0}, 3, SecondPaper::person);
        SecondPaper x = Check.told(FULL);
        for (int sewn = 1; sewn <= 4; sewn++) {
            x.sew(4);
            check.fine(x, "ROOM, sewn " + sewn, x.person(4, 1), 4 - sewn);
        }
        check.fine(x, "another's ROOM", x.person(2, 1), 3);
        SecondPaper y = Check.told(FULL);
        for (int t = 3; t >= 0; t--) {
            y.give(1, t, 4);
            check.fine(y, "has", y.person(4, 3), 15 >> t << t);
        }
        check.fine(y, "another has", y.person(0, 3), 0);
        check.promise(7, "NONE: 1.");
        refusals("person", 5, 1, 4, 1, SecondPaper::person);
    }

    private void giver() {
        check.promise(8, "Of a giver 0 skill, 1 SCORE NOW, 2 how often CAUGHT by ACTS.");
        row("giver", new int[] {0, 60, 1}, 0, SecondPaper::giver);
        row("giver", new int[] {0, 0, 0}, 1, SecondPaper::giver);
        row("giver", new int[] {0, 0, 0}, 2, SecondPaper::giver);
        SecondPaper x = Check.told(FULL + ";gives o b q 0");
        for (int times = 1; times <= 20; times++) {
            check.fine(x, "give", x.give(2, 1, 1), 1);
            check.fine(x, "how often", x.giver(2, 2), times);
        }
        check.fine(x, "another's", x.giver(1, 2), 0);
        check.fine(x, "caught by THE PLAN", x.planned(0), 1);
        x.drawn(0);
        x.caught(2, 0, 9);
        check.fine(x, "no ACTS", x.giver(2, 2), 20);
        check.fine(x, "live", x.give(1, 2, 0), 0);
        check.fine(x, "SCORE", x.giver(1, 1), 4);
        check.fine(x, "live too", x.give(1, 3, 0), 0);
        check.fine(x, "SCORE", x.giver(1, 1), 8);
        check.promise(8, "NONE: 1.");
        refusals("giver", 3, 1, 3, 1, SecondPaper::giver);
    }

    private void rides() {
        check.promise(9, "The tram that a person rides on a day; -2.");
        row("rides", new int[] {0, 0, -2, -2, 0}, 0, SecondPaper::rides);
        row("rides", new int[] {1, -2, 1, -2, -2}, 1, SecondPaper::rides);
        row("rides", new int[] {-2, -2, -2, -2, -2}, 5, SecondPaper::rides);
        row("rides", new int[] {-2, -2, -2, 3, 3}, 6, SecondPaper::rides);
        check.answers(of(LEAST), "rides(0, 1)", -2, x -> x.rides(0, 1));
        check.promise(9, "NONE: 1; 2.");
        refusals("rides", 5, 1, 7, 2, SecondPaper::rides);
        check.refuses(of(LEAST), "rides(0, 2)", 2, x -> x.rides(0, 2));
    }

    private void takes() {
        check.promise(10, "The tram that a giver takes on a day; -2.");
        row("takes", new int[] {0, 0, 0}, 0, SecondPaper::takes);
        row("takes", new int[] {2, -2, -2}, 2, SecondPaper::takes);
        row("takes", new int[] {-2, 1, 1}, 3, SecondPaper::takes);
        row("takes", new int[] {3, 1, 3}, 6, SecondPaper::takes);
        check.answers(of(LEAST), "takes(0, 1)", -2, x -> x.takes(0, 1));
        check.promise(10, "NONE: 1; 2.");
        refusals("takes", 3, 1, 7, 2, SecondPaper::takes);
        check.refuses(of(LEAST), "takes(0, 2)", 2, x -> x.takes(0, 2));
    }

    private void meet() {
        check.promise(11, "Days on which two givers take one tram, as bits.");
        int[][] due = {{-1, 1, 65}, {1, -1, 9}, {65, 9, -1}};
        for (int g = 0; g < 3; g++) {
            for (int h = 0; h < 3; h++) {
                int one = g;
                int other = h;
                if (g != h) {
                    check.answers(of(FULL), "meet(" + g + ", " + h + ")", due[g][h], x -> x.meet(one, other));
                }
            }
        }
        String two = LEAST.replace("days 2", "days 7") + ";giver n skill 0;tram x crowd 0 worth 1;tram y crowd 0 worth 1";
        check.answers(of(two), "meet(0, 1), taking none", 0, x -> x.meet(0, 1));
        check.answers(of(two + ";takes m x 0;takes n y 0;takes m x 1;takes n x 2"), "meet(0, 1), never on one", 0, x -> x.meet(0, 1));
        String all = "";
        for (int day = 0; day < 7; day++) {
            all += ";takes m y " + day + ";takes n y " + day;
        }
        String each = two + all;
        check.answers(of(each), "meet(0, 1), on all days", 127, x -> x.meet(0, 1));
        check.promise(11, "NONE: 1 (unlike).");
        for (int g = 0; g < 3; g++) {
            int like = g;
            check.refuses(of(FULL), "meet(" + g + ", " + g + ")", 1, x -> x.meet(like, like));
        }
        for (int wrong : new int[] {-1, LOW, HIGH, 3}) {
            check.refuses(of(FULL), "meet(" + wrong + ", 0)", 1, x -> x.meet(wrong, 0));
            check.refuses(of(FULL), "meet(0, " + wrong + ")", 1, x -> x.meet(0, wrong));
            check.refuses(of(FULL), "meet(" + wrong + ", " + wrong + ")", 1, x -> x.meet(wrong, wrong));
        }
        check.refuses(of(LEAST), "meet(0, 1)", 1, x -> x.meet(0, 1));
    }

    private void near() {
        check.promise(12, "NEAR, by what the person has NOW.");
        check.answers(of(FULL), "near(0, 0, 0, 0)", 30, x -> x.near(0, 0, 0, 0));
        check.answers(of(FULL), "near(2, 3, 4, 3)", 7, x -> x.near(2, 3, 4, 3));
        check.answers(of(FULL), "near of q, the bishop", 100, x -> x.near(0, 1, 1, 0));
        SecondPaper x = Check.told(FULL);
        x.give(1, 2, 0);
        x.sew(0);
        check.fine(x, "one is had", x.near(0, 0, 0, 0), 35);
        x.undo();
        x.undo();
        check.fine(x, "none is had", x.near(0, 0, 0, 0), 30);
        check.promise(12, "NONE: 1.");
        int[] counts = {3, 4, 5, 4};
        for (int at = 0; at < 4; at++) {
            for (int wrong : new int[] {-1, LOW, HIGH, counts[at]}) {
                int[] a = {0, 0, 0, 0};
                a[at] = wrong;
                check.refuses(of(FULL), "near(" + a[0] + ", " + a[1] + ", " + a[2] + ", " + a[3] + ")", 1, p -> p.near(a[0], a[1], a[2], a[3]));
            }
        }
        check.refuses(of(LEAST), "near(0, 0, 0, 0) without trams", 1, p -> p.near(0, 0, 0, 0));
    }

    private void would() {
        check.promise(13, "What would come of a GIFT on the day NOW: 0 GIVEN, 1 CAUGHT, 2 not together, 3 gone, 4 full.");
        check.answers(of(FULL), "would(0, 0, 0)", 0, x -> x.would(0, 0, 0));
        check.answers(of(FULL), "would(0, 1, 0)", 1, x -> x.would(0, 1, 0));
        check.answers(of(FULL), "would(0, 0, 3)", 2, x -> x.would(0, 0, 3));
        SecondPaper x = Check.told(FULL);
        x.give(0, 0, 0);
        check.fine(x, "gone", x.would(1, 0, 4), 3);
        for (int day = 1; day <= 6; day++) {
            check.fine(x, "day", x.day(), day);
            check.fine(x, "to s on day " + day, x.would(2, 2, 3), day == 6 ? 4 : 2);
        }
        x.day();
        check.fine(x, "behind the last day", x.would(0, 2, 4), 0);
        check.promise(13, "NONE: 1.");
        int[] counts = {3, 4, 5};
        for (int at = 0; at < 3; at++) {
            for (int wrong : new int[] {-1, LOW, HIGH, counts[at]}) {
                int[] a = {0, 0, 0};
                a[at] = wrong;
                check.refuses(of(FULL), "would(" + a[0] + ", " + a[1] + ", " + a[2] + ")", 1, p -> p.would(a[0], a[1], a[2]));
            }
        }
    }

    private void riders() {
        check.promise(14, "Who ride a tram on a day, as bits of people.");
        row("riders", new int[] {19, 0, 0, 0}, 0, SecondPaper::riders);
        row("riders", new int[] {0, 5, 0, 0}, 1, SecondPaper::riders);
        row("riders", new int[] {0, 0, 0, 24}, 6, SecondPaper::riders);
        String all = FULL.substring(0, FULL.indexOf(";rides")) + ";rides p y 3;rides q y 3;rides r y 3;rides s y 3;rides t y 3";
        check.answers(of(all), "riders(2, 3), all of them", 31, x -> x.riders(2, 3));
        check.promise(14, "NONE: 1; 2.");
        refusals("riders", 4, 0, 7, 2, SecondPaper::riders);
        check.refuses(of(LEAST + ";tram x crowd 0 worth 1"), "riders(0, 2)", 2, x -> x.riders(0, 2));
        check.refuses(of(LEAST), "riders(0, 2) without trams", 1, x -> x.riders(0, 2));
    }

    private void spare() {
        check.promise(15, "How many things more a person has ROOM for NOW (0 at least).");
        int[] due = {9, 8, 3, 0, 4};
        for (int p = 0; p < 5; p++) {
            int who = p;
            check.answers(of(FULL), "spare(" + p + ")", due[p], x -> x.spare(who));
        }
        SecondPaper x = Check.told(FULL);
        for (int t = 0; t < 4; t++) {
            x.give(1, t, 4);
            check.fine(x, "spare(4)", x.spare(4), 3 - t);
        }
        for (int sewn = 1; sewn <= 4; sewn++) {
            check.fine(x, "sew(4)", x.sew(4));
            check.fine(x, "spare(4), sewn " + sewn, x.spare(4), 0);
        }
        check.promise(15, "NONE: 1.");
        for (int wrong : new int[] {-1, LOW, HIGH, 5}) {
            check.refuses(of(FULL), "spare(" + wrong + ")", 1, p -> p.spare(wrong));
        }
    }

    private void safest() {
        check.promise(16, "The day, giver, person for a thing, together then, with ROOM as told for 1 or more,"
            + " by which NEAR (nobody having anything) is least:");
        String base = "college days 7 limit 0;thing a dead weighs 0;thing b dead weighs 0;tram x crowd 0 worth 1;tram y crowd 1 worth 1"
            + ";giver m skill 0;giver n skill 1;giver o skill 2;person p plain room 1 wakes 50;person q plain room 0 wakes 1"
            + ";person r tailor room 1 wakes 1;person s tailor room 2 wakes 51;person t plain room 9 wakes 52";
        check.answers(of(base + ";takes m x 0;rides q x 0;rides r x 0;rides t x 0"), "only with ROOM", 4, x -> x.safest(0));
        check.answers(of(base + ";takes m x 0;rides s x 0;rides t x 0"), "a tailor with ROOM for 1", 3, x -> x.safest(0));
        check.answers(of(base + ";takes m x 0;rides t x 0;takes n y 5;rides s y 5"), "least NEAR, though later", 513, x -> x.safest(0));
        check.answers(of(base + ";takes m x 0;rides t x 0;takes o x 6;rides t x 6"), "the last of all", 624, x -> x.safest(0));
        check.answers(of(base + ";takes m x 0;rides p y 0;takes n y 1;rides t y 1"), "only together", 114, x -> x.safest(1));
        check.answers(of(FULL), "NEAR 0 of two", 10, x -> x.safest(2));
        // NEAR itself is compared: like at 0 and at 100, and doubled of a guard.
        check.answers(of(base.replace("wakes 51", "wakes 0").replace("wakes 50", "wakes 1") + ";takes o x 0;rides p x 0;rides s x 0"),
            "like at 0", 20, x -> x.safest(0));
        check.answers(of(base.replace("a dead weighs 0", "a dead weighs 50") + ";takes m x 0;rides p x 0;rides s x 0;rides t x 0"),
            "like at 100", 0, x -> x.safest(0));
        String guard = base.replace("p plain room 1 wakes 50", "p guard room 1 wakes 20") + ";takes m x 0;rides p x 0;rides t x 0";
        check.answers(of(guard.replace("wakes 52", "wakes 41")), "a guard at 40", 0, x -> x.safest(0));
        check.answers(of(guard.replace("wakes 52", "wakes 39")), "a guard at 40", 4, x -> x.safest(0));
        SecondPaper x = Check.told(base.replace("limit 0", "limit 100") + ";takes m x 0;rides p x 0;rides s x 0");
        check.fine(x, "sew(0)", x.sew(0));
        check.fine(x, "ROOM as told", x.safest(0), 0);
        x.undo();
        check.fine(x, "give", x.give(0, 1, 0), 0);
        check.fine(x, "nobody having anything", x.safest(0), 0);
        check.fine(x, "of a thing that is gone", x.safest(1), 0);
        x.day();
        check.fine(x, "on any day", x.safest(0), 0);
    }

    private void safestOfSome() {
        check.promise(16, "100 times the day, 10 times the giver and the person, the first such;");
        String like = "college days 7 limit 0;thing a dead weighs 0;tram x crowd 0 worth 1;giver m skill 3;giver n skill 3;giver o skill 3"
            + ";person p plain room 1 wakes 9;person q plain room 1 wakes 9;person r plain room 1 wakes 9";
        check.answers(of(like + ";takes o x 2;rides r x 2;takes m x 3;rides p x 3"), "the first day", 222, x -> x.safest(0));
        check.answers(of(like + ";takes o x 2;rides p x 2;takes n x 2;rides r x 2"), "the first giver", 210, x -> x.safest(0));
        check.answers(of(like + ";takes o x 2;rides r x 2;rides q x 2"), "the first person", 221, x -> x.safest(0));
        check.promise(16, "-2 there are none.");
        check.answers(of(LEAST), "nobody together", -2, x -> x.safest(0));
        check.answers(of(LEAST + ";tram x crowd 0 worth 1;takes m x 1;rides p x 1"), "no ROOM", -2, x -> x.safest(0));
        check.answers(of(like + ";rides p x 0;rides q x 1;rides r x 6"), "no giver takes any", -2, x -> x.safest(0));
        check.answers(of(like + ";takes m x 0;takes n x 1;takes o x 6"), "nobody rides any", -2, x -> x.safest(0));
        check.promise(16, "NONE: 1.");
        for (int wrong : new int[] {-1, LOW, HIGH, 4}) {
            check.refuses(of(FULL), "safest(" + wrong + ")", 1, x -> x.safest(wrong));
        }
        check.refuses(of(LEAST), "safest(1)", 1, x -> x.safest(1));
    }
}
