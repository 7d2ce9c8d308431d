/** The edges of term II: NEAR at its least and its most, ROOM, a GIFT, THE PLAN. */
final class NearEdges {
    private static final String[] KINDS = {"plain", "bishop", "tailor", "guard"};
    private static final int PLAIN = 0;
    private static final int BISHOP = 1;
    private static final int TAILOR = 2;
    private static final int GUARD = 3;

    private final Check check;

    NearEdges(Check check) {
        this.check = check;
    }

    void run() {
        nearIsASum();
        nearOfBishops();
        nearAtLeast();
        nearOfGuards();
        nearAtMost();
        noticed();
        room();
        notTogether();
        gone();
        full();
        theFirstOfThese();
        caught();
        given();
        planFromTheBeginning();
        planDayByDay();
    }

    /** One person, one giver, together on day 0 on a tram with nobody else; a of the sort and weight, b to d to be had. */
    private static SecondPaper paper(String sort, int weighs, int kind, int wakes, int crowd, int skill) {
        return Check.told("college days 2 limit 100;thing a " + sort + " weighs " + weighs
            + ";thing b dead weighs 0;thing c egg weighs 0;thing d live weighs 0;person p " + KINDS[kind] + " room 9 wakes " + wakes
            + ";tram x crowd " + crowd + " worth 1;giver m skill " + skill + ";rides p x 0;takes m x 0");
    }

    private void near(int due, String sort, int weighs, int kind, int wakes, int crowd, int skill) {
        SecondPaper x = paper(sort, weighs, kind, wakes, crowd, skill);
        String call = "near of " + sort + " weighs " + weighs + ", " + KINDS[kind] + " wakes " + wakes + ", crowd " + crowd + ", skill " + skill;
        check.fine(x, call, x.near(0, 0, 0, 0), due);
    }

    private void nearIsASum() {
        check.term("II", "NEAR of a giver who gives a thing to a person on a tram: what the person wakes, the thing weighs,"
            + " 3 more for an egg, 10 for a live one, 5 for each thing the person has; less the tram's crowd, less the giver's skill;");
        near(50, "dead", 0, PLAIN, 50, 0, 0);
        near(51, "dead", 1, PLAIN, 50, 0, 0);
        near(51, "dead", 0, PLAIN, 51, 0, 0);
        near(53, "egg", 0, PLAIN, 50, 0, 0);
        near(60, "live", 0, PLAIN, 50, 0, 0);
        near(49, "dead", 0, PLAIN, 50, 1, 0);
        near(49, "dead", 0, PLAIN, 50, 0, 1);
        near(50, "dead", 0, TAILOR, 50, 0, 0);
        near(50, "dead", 50, TAILOR, 99, 60, 39);
        SecondPaper x = paper("dead", 7, PLAIN, 20, 3, 4);
        for (int had = 0; had <= 3; had++) {
            check.fine(x, "near, " + had + " being had", x.near(0, 0, 0, 0), 20 + 5 * had);
            x.give(0, 1 + had % 3, 0);
        }
        // What another person has, and on which day or tram they are, is nothing to it.
        SecondPaper two = Check.told("college days 2 limit 100;thing a dead weighs 1;thing b dead weighs 1;person p plain room 1 wakes 10"
            + ";person q plain room 1 wakes 20;tram x crowd 1 worth 1;tram y crowd 5 worth 1;giver m skill 0;giver n skill 2;rides p x 0;takes m x 0");
        two.give(0, 1, 0);
        check.fine(two, "near of q on y by n", two.near(1, 0, 1, 1), 14);
        check.fine(two, "near of q on x by m", two.near(0, 0, 1, 0), 20);
        check.fine(two, "near of p, who has b", two.near(0, 0, 0, 0), 15);
        check.fine(two, "near of b itself, which p has", two.near(0, 1, 0, 0), 15);
    }

    private void nearOfBishops() {
        check.term("II", "of a bishop 20 less;");
        near(30, "dead", 0, BISHOP, 50, 0, 0);
        near(1, "dead", 0, BISHOP, 21, 0, 0);
        near(0, "dead", 0, BISHOP, 20, 0, 0);
    }

    private void nearAtLeast() {
        check.term("II", "at least 0;");
        near(1, "dead", 0, PLAIN, 2, 1, 0);
        near(0, "dead", 0, PLAIN, 1, 1, 0);
        near(0, "dead", 0, PLAIN, 0, 1, 0);
        near(0, "dead", 0, PLAIN, 0, 60, 60);
        near(0, "dead", 0, BISHOP, 19, 0, 0);
        near(0, "dead", 0, BISHOP, 0, 60, 60);
        near(0, "dead", 0, GUARD, 0, 60, 60);
        near(0, "live", 10, PLAIN, 99, 60, 60);
    }

    private void nearOfGuards() {
        check.term("II", "of a guard twice;");
        near(2, "dead", 0, GUARD, 1, 0, 0);
        near(98, "dead", 0, GUARD, 49, 0, 0);
        near(40, "egg", 7, GUARD, 30, 15, 5);
        near(0, "dead", 0, GUARD, 0, 1, 0);
        near(0, "dead", 0, GUARD, 20, 20, 0);
    }

    private void nearAtMost() {
        check.term("II", "at most 100.");
        near(99, "dead", 0, PLAIN, 99, 0, 0);
        near(100, "dead", 1, PLAIN, 99, 0, 0);
        near(100, "dead", 2, PLAIN, 99, 0, 0);
        near(100, "live", 50, PLAIN, 99, 0, 0);
        near(100, "live", 50, BISHOP, 99, 0, 0);
        near(100, "dead", 0, GUARD, 50, 0, 0);
        near(100, "dead", 0, GUARD, 51, 0, 0);
        near(100, "live", 50, GUARD, 99, 0, 0);
        // All is summed ahead of it: 159 less 120, of a guard twice.
        near(39, "live", 50, PLAIN, 99, 60, 60);
        near(78, "live", 50, GUARD, 99, 60, 60);
    }

    private void noticed() {
        check.term("II", "NOTICED, where nothing is drawn, if that is above limit.");
        for (int limit : new int[] {0, 1, 29, 30, 50, 98, 99, 100}) {
            String text = "college days 2 limit " + limit + ";thing a dead weighs 50;thing b dead weighs 49;thing c dead weighs 48"
                + ";person p plain room 1 wakes " + Math.max(0, limit - 49) + ";tram x crowd " + Math.max(0, 49 - limit)
                + " worth 1;giver m skill 0;rides p x 0;takes m x 0;gives m a p 0;gives m b p 0";
            SecondPaper x = Check.told(text);
            check.fine(x, "NEAR", x.near(0, 1, 0, 0), limit);
            check.fine(x, "above limit " + limit, x.would(0, 0, 0), limit < 100 ? 1 : 0);
            check.fine(x, "at limit " + limit, x.would(0, 1, 0), 0);
            check.fine(x, "below limit " + limit, x.would(0, 2, 0), 0);
            check.fine(x, "planned(0)", x.planned(0), limit < 100 ? 1 : 0);
            check.fine(x, "planned(1)", x.planned(1), limit < 100 ? 0 : 4);
            check.fine(x, "never()", x.never(), limit < 100 ? 1 : 0);
        }
    }

    private void room() {
        check.term("II", "ROOM: as told, of a tailor half, downwards.");
        for (int kind = 0; kind < 4; kind++) {
            for (int told = 0; told <= 9; told++) {
                SecondPaper x = Check.told("college days 2 limit 0;thing a dead weighs 0;giver m skill 0;person p " + KINDS[kind] + " room " + told + " wakes 0");
                check.fine(x, KINDS[kind] + " room " + told, x.person(0, 1), kind == TAILOR ? told / 2 : told);
            }
        }
    }

    // ---- a GIFT

    private static final String TWO = "college days 3 limit 100;thing a dead weighs 0;thing b egg weighs 0;thing c live weighs 0"
        + ";person p plain room 2 wakes 50;person q plain room 0 wakes 50;person r tailor room 1 wakes 50"
        + ";tram x crowd 0 worth 1;tram y crowd 0 worth 1;giver m skill 0;giver n skill 0";

    private void notTogether() {
        check.term("II", "A GIFT on a day: not together, if they don't ride, take one tram that day;");
        String[] journeys = {"", ";rides p x 0", ";takes m x 0", ";rides p x 0;takes m y 0", ";rides p x 0;takes m x 1",
            ";rides p x 1;takes m x 0", ";rides p x 0;takes n x 0", ";rides q x 0;takes m x 0", ";rides p x 1;takes m x 1"};
        for (String journey : journeys) {
            SecondPaper x = Check.told(TWO + journey + ";gives m a p 0");
            check.fine(x, "would" + journey, x.would(0, 0, 0), 2);
            check.refused(x, "give" + journey, x.give(0, 0, 0), 5);
            check.fine(x, "planned" + journey, x.planned(0), 2);
        }
        for (String tram : new String[] {"x", "y"}) {
            SecondPaper x = Check.told(TWO + ";takes m " + tram + " 0;rides p " + tram + " 0;gives m a p 0");
            check.fine(x, "would, both on " + tram, x.would(0, 0, 0), 0);
            check.fine(x, "planned, both on " + tram, x.planned(0), 0);
        }
    }

    private void gone() {
        check.term("II", "gone, if somebody has the thing;");
        SecondPaper x = Check.told(TWO.replace("q plain room 0", "q plain room 1") + ";takes m x 0;takes n x 0;rides p x 0;rides q x 0");
        check.fine(x, "give", x.give(0, 0, 0), 0);
        check.fine(x, "to the same", x.would(0, 0, 0), 3);
        check.fine(x, "to the same by another", x.would(1, 0, 0), 3);
        check.fine(x, "to another", x.would(0, 0, 1), 3);
        check.fine(x, "another thing", x.would(0, 1, 0), 0);
        x.undo();
        check.fine(x, "nobody has it again", x.would(0, 0, 1), 0);
    }

    private void full() {
        check.term("II", "full, if the person has as many as there is ROOM for;");
        SecondPaper x = Check.told(TWO + ";takes m x 0;rides p x 0;rides q x 0;rides r x 0");
        check.fine(x, "ROOM 0", x.would(0, 0, 1), 4);
        check.fine(x, "ROOM 0 of a tailor", x.would(0, 0, 2), 4);
        check.fine(x, "the first of two", x.give(0, 0, 0), 0);
        check.fine(x, "the second of two", x.give(0, 1, 0), 0);
        check.fine(x, "the third of two", x.would(0, 2, 0), 4);
        check.refused(x, "the third of two", x.give(0, 2, 0), 5);
        x.sew(0);
        check.fine(x, "more than there is ROOM for", x.would(0, 2, 0), 4);
        x.sew(0);
        check.fine(x, "two, and ROOM 0", x.would(0, 2, 0), 4);
        x.undo();
        x.undo();
        x.undo();
        check.fine(x, "one of two", x.would(0, 2, 0), 0);
        x.sew(0);
        check.fine(x, "one of one", x.would(0, 2, 0), 4);
    }

    private void theFirstOfThese() {
        check.term("II", "of these the first.");
        SecondPaper x = Check.told(TWO.replace("room 2", "room 1").replace("limit 100", "limit 55") + ";takes m x 0;rides p x 0;rides q x 0;rides r x 2");
        check.fine(x, "give", x.give(0, 0, 0), 0);
        check.fine(x, "gone and full", x.would(0, 0, 0), 3);
        check.fine(x, "gone and no ROOM", x.would(0, 0, 1), 3);
        check.fine(x, "full, and would be noticed", x.would(0, 2, 0), 4);
        check.fine(x, "not together and gone and full", x.would(1, 0, 0), 2);
        check.fine(x, "not together and full", x.would(1, 1, 0), 2);
        check.fine(x, "not together and no ROOM", x.would(0, 1, 2), 2);
        SecondPaper plan = Check.told(TWO.replace("room 2", "room 1") + ";takes m x 0;rides p x 0;gives m a p 0;gives m a p 0;gives n a p 0;gives m b p 0");
        int[] due = {0, 3, 2, 4};
        for (int k = 0; k < 4; k++) {
            check.fine(plan, "planned(" + k + ")", plan.planned(k), due[k]);
        }
    }

    private void caught() {
        check.term("II", "Else he is CAUGHT if it is NOTICED: his SCORE is 0 then, the thing stays with the college;");
        SecondPaper x = Check.told(TWO.replace("limit 100", "limit 57") + ";takes m x 0;takes n x 0;rides p x 0"
            + ";gives m a p 0;gives n c p 0;gives m c p 0;gives m b p 0");
        check.fine(x, "give a", x.give(0, 0, 0), 0);
        check.fine(x, "score", x.giver(0, 1), 1);
        check.fine(x, "give c, which is noticed", x.give(0, 2, 0), 1);
        check.fine(x, "score", x.giver(0, 1), 0);
        check.fine(x, "the thing", x.thing(2, 2), -2);
        check.fine(x, "the person", x.person(0, 3), 1);
        check.fine(x, "NEAR is as it was", x.near(0, 2, 0, 0), 65);
        check.fine(x, "caught with nothing", x.give(1, 2, 0), 1);
        check.fine(x, "score", x.giver(1, 1), 0);
        int[] due = {0, 1, 1, 1};
        for (int k = 0; k < 4; k++) {
            check.fine(x, "planned(" + k + ")", x.planned(k), due[k]);
        }
        check.fine(x, "planScore(0, 0)", x.planScore(0, 0), 0);
        check.fine(x, "planHas(0, 0)", x.planHas(0, 0), 1);
        SecondPaper later = Check.told(TWO.replace("limit 100", "limit 53") + ";takes m x 0;rides p x 0;gives m c p 0;gives m b p 0");
        check.fine(later, "one who was caught gives again", later.planScore(0, 0), 2);
    }

    private void given() {
        check.term("II", "or it is GIVEN: the person has it; SCORE 1 more, 2 for an egg, 4 for a live one.");
        SecondPaper x = Check.told(TWO.replace("room 2", "room 3") + ";takes m x 0;takes n x 0;rides p x 0;gives m a p 0;gives m b p 0;gives m c p 0");
        int[] score = {1, 3, 7};
        int[] has = {1, 3, 7};
        for (int t = 0; t < 3; t++) {
            check.fine(x, "give", x.give(0, t, 0), 0);
            check.fine(x, "score", x.giver(0, 1), score[t]);
            check.fine(x, "who has it", x.thing(t, 2), 0);
            check.fine(x, "what the person has", x.person(0, 3), has[t]);
        }
        check.fine(x, "the other giver's score", x.giver(1, 1), 0);
        check.fine(x, "planScore", x.planScore(0, 0), 7);
        check.fine(x, "planHas", x.planHas(0, 0), 7);
    }

    // ---- THE PLAN

    private void planFromTheBeginning() {
        check.term("II", "THE PLAN: from the beginning (nobody has anything, nothing is sewn up),");
        SecondPaper x = Check.told(TWO.replace("room 2", "room 1") + ";takes m x 0;rides p x 0;takes m x 1;rides p x 1;gives m a p 1;gives m b p 1");
        for (int round = 0; round < 3; round++) {
            check.fine(x, "planned(0)", x.planned(0), 0);
            check.fine(x, "planned(1)", x.planned(1), 4);
            check.fine(x, "planHas(0, 0)", x.planHas(0, 0), 0);
            check.fine(x, "planHas(0, 1)", x.planHas(0, 1), 1);
            check.fine(x, "planScore(0, 1)", x.planScore(0, 1), 1);
            check.fine(x, "drawn(0)", x.drawn(0), 1);
            if (round == 0) {
                x.give(0, 0, 0);
                x.sew(0);
            } else {
                x.day();
            }
        }
    }

    private void planDayByDay() {
        check.term("II", "all its GIFTS day by day, on one day as told.");
        // Told last, but first by its day; of one day the first that is told has the only place.
        SecondPaper x = Check.told(TWO.replace("room 2", "room 1") + ";takes m x 0;rides p x 0;takes m x 2;rides p x 2"
            + ";gives m a p 2;gives m c p 0;gives m b p 0;gives m c p 2");
        int[] due = {4, 0, 4, 3};
        for (int k = 0; k < 4; k++) {
            check.fine(x, "planned(" + k + ")", x.planned(k), due[k]);
        }
        check.fine(x, "planHas(0, 0)", x.planHas(0, 0), 4);
        // As told, not by things: c ahead of a.
        SecondPaper y = Check.told(TWO.replace("limit 100", "limit 60") + ";takes m x 1;rides p x 1;gives m c p 1;gives m a p 1");
        check.fine(y, "planned(0)", y.planned(0), 0);
        check.fine(y, "planned(1)", y.planned(1), 0);
        SecondPaper z = Check.told(TWO.replace("limit 100", "limit 60") + ";takes m x 1;rides p x 1;gives m a p 1;gives m c p 1");
        check.fine(z, "planned(0)", z.planned(0), 0);
        check.fine(z, "planned(1)", z.planned(1), 1);
    }
}
