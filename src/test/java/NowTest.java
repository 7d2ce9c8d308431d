/** Promises 6 to 16: thing, person, giver, rides, takes, meet, near, would, riders, spare, safest. */
public final class NowTest {
    private static final Check CHECK = new Check();
    private static final String TEXT = "college days 3 limit 30"
        + ";thing e egg weighs 5;thing l live weighs 10;thing d dead weighs 2;thing c dead weighs 50"
        + ";person a plain room 2 wakes 30;person b bishop room 9 wakes 40;person t tailor room 3 wakes 10"
        + ";person g guard room 1 wakes 20;person o tailor room 1 wakes 99"
        + ";tram x crowd 10 worth 20;tram y crowd 20 worth 30;tram z crowd 0 worth 60"
        + ";giver m skill 5;giver n skill 15;giver k skill 0"
        + ";rides a x 0;rides b y 1;rides t x 0;rides a y 1;rides g z 2;rides o z 2"
        + ";takes m x 0;takes n y 1;takes m z 2;takes n x 0;takes k z 2;takes k y 1";
    private static final int BIG = Integer.MAX_VALUE;
    private static final int LOW = Integer.MIN_VALUE;

    public static void main(String[] args) {
        thing();
        person();
        giver();
        journeys();
        meet();
        near();
        would();
        riders();
        spare();
        safest();
        CHECK.end();
    }

    private static SecondPaper paper() {
        return CHECK.college(TEXT, 4);
    }

    private static void row(SecondPaper x, String call, int[] got, int... due) {
        for (int i = 0; i < due.length; i++) {
            CHECK.is(call + " of " + i, got[i], due[i]);
        }
        CHECK.is(call + ": trouble()", x.trouble(), 0);
    }

    private static void thing() {
        SecondPaper x = paper();
        row(x, "sort", new int[] {x.thing(0, 0), x.thing(1, 0), x.thing(2, 0), x.thing(3, 0)}, 1, 2, 0, 0);
        row(x, "weight", new int[] {x.thing(0, 1), x.thing(1, 1), x.thing(2, 1), x.thing(3, 1)}, 5, 10, 2, 50);
        x.give(1, 1, 2);
        row(x, "who", new int[] {x.thing(0, 2), x.thing(1, 2), x.thing(2, 2), x.thing(3, 2)}, -2, 2, -2, -2);
        CHECK.refused(x, "thing(4, 0)", x.thing(4, 0), 1);
        CHECK.refused(x, "thing(-1, 0)", x.thing(-1, 0), 1);
        CHECK.refused(x, "thing(0, 3)", x.thing(0, 3), 1);
        CHECK.refused(x, "thing(0, -1)", x.thing(0, -1), 1);
        CHECK.refused(x, "thing(BIG, LOW)", x.thing(BIG, LOW), 1);
    }

    private static void person() {
        SecondPaper x = paper();
        for (int p = 0; p < 5; p++) {
            CHECK.fine(x, "kind of " + p, x.person(p, 0), new int[] {0, 1, 2, 3, 2}[p]);
            CHECK.fine(x, "room of " + p, x.person(p, 1), new int[] {2, 9, 1, 1, 0}[p]);
            CHECK.fine(x, "wakes of " + p, x.person(p, 2), new int[] {30, 40, 10, 20, 99}[p]);
            CHECK.fine(x, "has of " + p, x.person(p, 3), 0);
        }
        x.give(0, 0, 0);
        x.give(1, 2, 0);
        CHECK.fine(x, "has", x.person(0, 3), 5);
        x.sew(0);
        x.sew(1);
        x.sew(1);
        CHECK.fine(x, "room, sewn", x.person(0, 1), 1);
        CHECK.fine(x, "room, sewn twice", x.person(1, 1), 7);
        CHECK.refused(x, "person(5, 0)", x.person(5, 0), 1);
        CHECK.refused(x, "person(-1, 0)", x.person(-1, 0), 1);
        CHECK.refused(x, "person(0, 4)", x.person(0, 4), 1);
        CHECK.refused(x, "person(0, LOW)", x.person(0, LOW), 1);
    }

    private static void giver() {
        SecondPaper x = paper();
        CHECK.fine(x, "skill", x.giver(1, 0), 15);
        x.give(1, 1, 0);
        CHECK.fine(x, "score", x.giver(1, 1), 4);
        x.give(1, 0, 0);
        CHECK.fine(x, "score", x.giver(1, 1), 6);
        CHECK.fine(x, "caught", x.give(1, 3, 2), 1);
        CHECK.fine(x, "score of one who is caught", x.giver(1, 1), 0);
        CHECK.fine(x, "how often", x.giver(1, 2), 1);
        x.give(1, 3, 2);
        CHECK.fine(x, "how often", x.giver(1, 2), 2);
        x.give(1, 2, 2);
        CHECK.fine(x, "score from 0 on", x.giver(1, 1), 1);
        CHECK.fine(x, "another's score", x.giver(0, 1), 0);
        CHECK.fine(x, "another's", x.giver(0, 2), 0);
        CHECK.refused(x, "giver(3, 0)", x.giver(3, 0), 1);
        CHECK.refused(x, "giver(-1, 0)", x.giver(-1, 0), 1);
        CHECK.refused(x, "giver(0, 3)", x.giver(0, 3), 1);
        CHECK.refused(x, "giver(0, -1)", x.giver(0, -1), 1);
    }

    private static void journeys() {
        SecondPaper x = paper();
        row(x, "rides", new int[] {x.rides(0, 0), x.rides(0, 1), x.rides(0, 2), x.rides(3, 2)}, 0, 1, -2, 2);
        row(x, "takes", new int[] {x.takes(0, 0), x.takes(0, 1), x.takes(0, 2), x.takes(2, 1)}, 0, -2, 2, 1);
        CHECK.refused(x, "rides(5, 0)", x.rides(5, 0), 1);
        CHECK.refused(x, "rides(5, 9)", x.rides(5, 9), 1);
        CHECK.refused(x, "rides(0, 3)", x.rides(0, 3), 2);
        CHECK.refused(x, "rides(0, -1)", x.rides(0, -1), 2);
        CHECK.refused(x, "rides(0, 6)", x.rides(0, 6), 2);
        CHECK.refused(x, "takes(3, 0)", x.takes(3, 0), 1);
        CHECK.refused(x, "takes(-1, 9)", x.takes(-1, 9), 1);
        CHECK.refused(x, "takes(0, 3)", x.takes(0, 3), 2);
        CHECK.refused(x, "takes(0, LOW)", x.takes(0, LOW), 2);
    }

    private static void meet() {
        SecondPaper x = paper();
        CHECK.fine(x, "meet(0, 1)", x.meet(0, 1), 1);
        CHECK.fine(x, "meet(0, 2)", x.meet(0, 2), 4);
        CHECK.fine(x, "meet(2, 1)", x.meet(2, 1), 2);
        CHECK.refused(x, "meet(1, 1)", x.meet(1, 1), 1);
        CHECK.refused(x, "meet(0, 3)", x.meet(0, 3), 1);
        CHECK.refused(x, "meet(-1, 0)", x.meet(-1, 0), 1);
        // Days on which neither takes a tram are none of theirs.
        SecondPaper y = CHECK.college("college days 7 limit 0;thing e egg weighs 0;person p plain room 1 wakes 1"
            + ";tram x crowd 0 worth 1;tram y crowd 0 worth 1;giver m skill 0;giver n skill 0"
            + ";takes m x 0;takes n y 0;takes m x 6;takes n x 6;takes m y 2;takes n y 2", 1);
        CHECK.fine(y, "meet(0, 1)", y.meet(0, 1), 68);
    }

    private static void near() {
        SecondPaper x = paper();
        CHECK.fine(x, "plain, egg", x.near(0, 0, 0, 0), 23);
        CHECK.fine(x, "live", x.near(0, 1, 0, 0), 35);
        CHECK.fine(x, "dead", x.near(0, 2, 0, 0), 17);
        CHECK.fine(x, "bishop", x.near(0, 1, 1, 2), 35);
        CHECK.fine(x, "bishop, at least 0", x.near(1, 2, 1, 1), 0);
        CHECK.fine(x, "guard, twice", x.near(0, 0, 3, 2), 46);
        CHECK.fine(x, "guard, 0 twice", x.near(1, 2, 3, 1), 0);
        CHECK.fine(x, "guard, at most 100", x.near(2, 3, 3, 2), 100);
        CHECK.fine(x, "at most 100", x.near(2, 3, 4, 2), 100);
        x.give(0, 0, 0);
        CHECK.fine(x, "one thing had", x.near(0, 1, 0, 0), 40);
        CHECK.fine(x, "another person", x.near(0, 1, 1, 2), 35);
        x.give(1, 2, 0);
        CHECK.fine(x, "two things had", x.near(0, 1, 0, 0), 45);
        CHECK.refused(x, "near(3, 0, 0, 0)", x.near(3, 0, 0, 0), 1);
        CHECK.refused(x, "near(0, 4, 0, 0)", x.near(0, 4, 0, 0), 1);
        CHECK.refused(x, "near(0, 0, 5, 0)", x.near(0, 0, 5, 0), 1);
        CHECK.refused(x, "near(0, 0, 0, 3)", x.near(0, 0, 0, 3), 1);
        CHECK.refused(x, "near(0, 0, 0, -1)", x.near(0, 0, 0, -1), 1);
    }

    private static void would() {
        SecondPaper x = paper();
        CHECK.fine(x, "given", x.would(0, 0, 0), 0);
        CHECK.fine(x, "noticed", x.would(0, 1, 0), 1);
        CHECK.fine(x, "by another, unnoticed", x.would(1, 1, 0), 0);
        CHECK.fine(x, "giver takes none", x.would(2, 0, 0), 2);
        CHECK.fine(x, "person rides none", x.would(0, 0, 1), 2);
        CHECK.fine(x, "neither", x.would(2, 0, 1), 2);
        x.give(0, 0, 2);
        CHECK.fine(x, "gone", x.would(0, 0, 0), 3);
        CHECK.fine(x, "gone ahead of full", x.would(0, 0, 2), 3);
        CHECK.fine(x, "full", x.would(0, 1, 2), 4);
        x.day();
        CHECK.fine(x, "not together ahead of gone", x.would(0, 0, 0), 2);
        CHECK.fine(x, "on the day NOW", x.would(1, 1, 1), 0);
        x.day();
        CHECK.fine(x, "no room at all", x.would(0, 2, 4), 4);
        CHECK.fine(x, "just above the limit", x.would(0, 2, 3), 1);
        CHECK.refused(x, "would(3, 0, 0)", x.would(3, 0, 0), 1);
        CHECK.refused(x, "would(0, 4, 0)", x.would(0, 4, 0), 1);
        CHECK.refused(x, "would(0, 0, 5)", x.would(0, 0, 5), 1);
        CHECK.refused(x, "would(-1, -1, -1)", x.would(-1, -1, -1), 1);
        // NEAR 30 isn't above limit 30.
        SecondPaper y = CHECK.college("college days 2 limit 30;thing d dead weighs 0;thing f dead weighs 1"
            + ";person p plain room 1 wakes 30;tram x crowd 0 worth 1;giver m skill 0;rides p x 0;takes m x 0", 2);
        CHECK.fine(y, "at the limit", y.would(0, 0, 0), 0);
        CHECK.fine(y, "above it", y.would(0, 1, 0), 1);
        y.sew(0);
        CHECK.fine(y, "sewn up", y.would(0, 0, 0), 4);
    }

    private static void riders() {
        SecondPaper x = paper();
        CHECK.fine(x, "riders(0, 0)", x.riders(0, 0), 5);
        CHECK.fine(x, "riders(1, 1)", x.riders(1, 1), 3);
        CHECK.fine(x, "riders(2, 2)", x.riders(2, 2), 24);
        CHECK.fine(x, "riders(2, 0)", x.riders(2, 0), 0);
        CHECK.refused(x, "riders(3, 0)", x.riders(3, 0), 1);
        CHECK.refused(x, "riders(-2, 0)", x.riders(-2, 0), 1);
        CHECK.refused(x, "riders(3, 3)", x.riders(3, 3), 1);
        CHECK.refused(x, "riders(0, 3)", x.riders(0, 3), 2);
        CHECK.refused(x, "riders(0, -1)", x.riders(0, -1), 2);
    }

    private static void spare() {
        SecondPaper x = paper();
        for (int p = 0; p < 5; p++) {
            CHECK.fine(x, "spare of " + p, x.spare(p), new int[] {2, 9, 1, 1, 0}[p]);
        }
        x.give(0, 0, 0);
        CHECK.fine(x, "spare", x.spare(0), 1);
        x.sew(0);
        CHECK.fine(x, "spare, sewn", x.spare(0), 0);
        x.sew(0);
        CHECK.fine(x, "spare, sewn over what is had", x.spare(0), 0);
        CHECK.refused(x, "spare(5)", x.spare(5), 1);
        CHECK.refused(x, "spare(-1)", x.spare(-1), 1);
    }

    private static void safest() {
        SecondPaper x = paper();
        CHECK.fine(x, "safest(0)", x.safest(0), 12);
        CHECK.fine(x, "safest(3), the first of two", x.safest(3), 12);
        x.give(1, 0, 2);
        x.sew(2);
        x.day();
        CHECK.fine(x, "as nobody has anything, as told", x.safest(3), 12);
        CHECK.refused(x, "safest(4)", x.safest(4), 1);
        CHECK.refused(x, "safest(-1)", x.safest(-1), 1);
        String base = "college days 3 limit 0;thing d dead weighs 50;tram x crowd 0 worth 1;giver m skill 0;giver n skill 1"
            + ";person o tailor room 1 wakes 1;person p plain room 1 wakes 9;person q plain room 0 wakes 1;person r plain room 1 wakes 8";
        SecondPaper none = CHECK.college(base + ";takes m x 0;rides o x 0;rides q x 0;rides p x 1", 1);
        CHECK.fine(none, "nobody with room", none.safest(0), -2);
        SecondPaper y = CHECK.college(base + ";takes m x 1;takes n x 1;rides o x 1;rides p x 1;rides r x 1;takes m x 2;rides r x 2", 1);
        CHECK.fine(y, "though noticed", y.safest(0), 113);
        SecondPaper z = CHECK.college(base + ";takes m x 2;takes n x 2;rides p x 2;rides r x 2;takes m x 1;rides p x 1", 1);
        CHECK.fine(z, "later but less near", z.safest(0), 213);
    }
}
