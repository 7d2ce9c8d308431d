/** Promises 23 to 25: soonest, soonestOf, never. */
public final class AllGivenTest {
    private static final Check CHECK = new Check();

    public static void main(String[] args) {
        heavyFirst();
        lightFirst();
        oneDayInOrder();
        cannotBe();
        leastLastDay();
        never();
        actsChangeNothing();
        CHECK.end();
    }

    private static String college(int weightA, int weightB, int room) {
        return "college days 4 limit 10;thing a dead weighs " + weightA + ";thing b dead weighs " + weightB
            + ";person p plain room " + room + " wakes 5;tram x crowd 0 worth 1;giver m skill 0;giver n skill 0";
    }

    private static void soonest(String text, int last, int... gifts) {
        SecondPaper x = CHECK.college(text, gifts.length);
        CHECK.fine(x, "soonest()", x.soonest(), last);
        for (int t = 0; t < gifts.length; t++) {
            CHECK.fine(x, "soonestOf(" + t + ")", x.soonestOf(t), gifts[t]);
        }
        CHECK.refused(x, "soonestOf beyond", x.soonestOf(gifts.length), 1);
        CHECK.refused(x, "soonestOf(-1)", x.soonestOf(-1), 1);
    }

    private static void heavyFirst() {
        soonest(college(5, 0, 2) + ";rides p x 1;rides p x 2;takes m x 1;takes m x 2", 2, 100, 200);
    }

    private static void lightFirst() {
        // What is given on an earlier day is had, though the thing's number is higher.
        soonest(college(0, 5, 2) + ";rides p x 1;rides p x 2;takes m x 1;takes m x 2", 2, 200, 100);
    }

    private static void oneDayInOrder() {
        soonest(college(5, 0, 2) + ";rides p x 0;takes m x 0;takes n x 0", 0, 0, 10);
        // On one day things are given in their order, so the heavy one would come second.
        SecondPaper x = CHECK.college(college(0, 5, 2) + ";rides p x 0;takes m x 0;takes n x 0", 2);
        CHECK.fine(x, "soonest()", x.soonest(), -2);
        CHECK.refused(x, "soonestOf(0)", x.soonestOf(0), 6);
        CHECK.refused(x, "soonestOf(2)", x.soonestOf(2), 1);
        CHECK.fine(x, "never()", x.never(), 0);
    }

    private static void cannotBe() {
        SecondPaper room = CHECK.college(college(0, 0, 1) + ";rides p x 0;rides p x 3;takes m x 0;takes m x 3", 2);
        CHECK.fine(room, "no room for two", room.soonest(), -2);
        CHECK.fine(room, "never()", room.never(), 0);
        SecondPaper giver = CHECK.college(college(0, 0, 2) + ";rides p x 3;takes m x 3", 2);
        CHECK.fine(giver, "no giver gives two on one day", giver.soonest(), -2);
        soonest(college(0, 0, 2) + ";rides p x 3;takes m x 3;takes n x 3", 3, 300, 310);
    }

    private static void leastLastDay() {
        // With a given to p on day 0, b could be given on day 2 only.
        String text = "college days 3 limit 10;thing a dead weighs 0;thing b dead weighs 9"
            + ";person p plain room 1 wakes 1;person q plain room 1 wakes 9;person r plain room 1 wakes 1"
            + ";tram x crowd 0 worth 1;tram y crowd 0 worth 1;giver m skill 0;giver n skill 0";
        soonest(text + ";takes m x 0;rides p x 0;takes n y 1;rides q y 1;takes m x 2;rides r x 2", 1, 111, 0);
        soonest(text + ";takes m x 0;rides p x 0;takes m x 2;rides r x 2", 2, 0, 202);
        // Of like last days the first things' days, then givers, then persons are the least.
        soonest(text + ";takes m x 0;takes n x 0;rides p x 0;rides q x 0;takes n x 1;rides p x 1", 0, 1, 10);
    }

    private static void never() {
        SecondPaper x = CHECK.college("college days 2 limit 10;thing a dead weighs 11;thing b dead weighs 10;thing c egg weighs 8"
            + ";thing d live weighs 0;person p plain room 1 wakes 0;person q tailor room 1 wakes 0"
            + ";tram x crowd 0 worth 1;tram y crowd 60 worth 1;giver m skill 0;takes m x 0;rides p x 0;takes m y 1;rides q y 1", 4);
        CHECK.fine(x, "never()", x.never(), 5);
        CHECK.fine(x, "soonest()", x.soonest(), -2);
        SecondPaper y = CHECK.college(college(0, 0, 1), 2);
        CHECK.fine(y, "nobody together", y.never(), 3);
    }

    private static void actsChangeNothing() {
        SecondPaper x = CHECK.college(college(5, 0, 2) + ";rides p x 0;takes m x 0;takes n x 0", 2);
        x.give(0, 0, 0);
        x.sew(0);
        x.sew(0);
        x.day();
        CHECK.fine(x, "never()", x.never(), 0);
        CHECK.fine(x, "soonest()", x.soonest(), 0);
        CHECK.fine(x, "soonestOf(1)", x.soonestOf(1), 10);
        CHECK.fine(x, "thing NOW", x.thing(1, 2), -2);
    }
}
