/** Promises 29 to 32: value, lot, rests, restOf. */
public final class LotsTest {
    private static final Check CHECK = new Check();
    private static final String BASE = "college days 3 limit 10;thing e dead weighs 0;giver m skill 0;giver n skill 1;giver k skill 60";

    public static void main(String[] args) {
        lots();
        lotRefusals();
        choices();
        choiceRefusals();
        CHECK.end();
    }

    private static SecondPaper trams(int people, int... worths) {
        String text = BASE;
        for (int i = 0; i < people; i++) {
            text += ";person p" + (char) ('a' + i) + " plain room 1 wakes 1";
        }
        for (int i = 0; i < worths.length; i++) {
            text += ";tram x" + (char) ('a' + i) + " crowd 0 worth " + worths[i];
        }
        return CHECK.college(text, 1);
    }

    /** A game's worths, its VALUE, and the lots: upper and lower numbers in turn. */
    private static void lot(int[] worths, long upper, long lower, long... lots) {
        SecondPaper x = trams(1, worths);
        CHECK.fine(x, "value(false)", x.value(false), upper);
        CHECK.fine(x, "value(true)", x.value(true), lower);
        for (int i = 0; i < worths.length; i++) {
            CHECK.fine(x, "lot(" + i + ", false)", x.lot(i, false), lots[2 * i]);
            CHECK.fine(x, "lot(" + i + ", true)", x.lot(i, true), lots[2 * i + 1]);
        }
        CHECK.refused(x, "lot beyond", x.lot(worths.length, true), 1);
    }

    private static void lots() {
        lot(new int[] {7}, 0, 1, 1, 1);
        lot(new int[] {60, 60}, 30, 1, 1, 2, 1, 2);
        lot(new int[] {1, 60, 1}, 120, 121, 60, 121, 1, 121, 60, 121);
        lot(new int[] {10, 20, 30}, 12, 1, 0, 1, 3, 5, 2, 5);
        lot(new int[] {20, 20, 20, 20}, 15, 1, 1, 4, 1, 4, 1, 4, 1, 4);
        lot(new int[] {20, 30, 60, 20}, 20, 1, 0, 1, 2, 3, 1, 3, 0, 1);
        lot(new int[] {59, 58, 57, 53}, 3L * 59 * 58 * 57 * 53, 729877,
            58 * 57 * 53, 729877, 59 * 57 * 53, 729877, 59 * 58 * 53, 729877, 59 * 58 * 57, 729877);
        lot(new int[] {60, 59, 1, 1}, 3540, 119, 59, 119, 60, 119, 0, 1, 0, 1);
    }

    private static void lotRefusals() {
        SecondPaper x = CHECK.college(BASE + ";person p plain room 1 wakes 1", 1);
        CHECK.refused(x, "value(false)", x.value(false), 6);
        CHECK.refused(x, "value(true)", x.value(true), 6);
        CHECK.refused(x, "lot(0, false)", x.lot(0, false), 1);
        SecondPaper y = trams(1, 5, 6);
        CHECK.refused(y, "lot(-1, false)", y.lot(-1, false), 1);
        CHECK.refused(y, "lot(MAX, true)", y.lot(Integer.MAX_VALUE, true), 1);
    }

    private static void rest(String text, int day, int rests, int... first) {
        SecondPaper x = CHECK.college(text, 1);
        CHECK.fine(x, "rests(" + day + ")", x.rests(day), rests);
        for (int p = 0; p < first.length; p++) {
            CHECK.fine(x, "restOf(" + day + ", " + p + ")", x.restOf(day, p), first[p]);
        }
    }

    private static void choices() {
        String two = BASE + ";tram x crowd 0 worth 1;tram y crowd 0 worth 1"
            + ";person p plain room 1 wakes 1;person q plain room 0 wakes 1";
        String three = two + ";person r guard room 1 wakes 1";
        String five = three + ";person s plain room 1 wakes 1;person t plain room 1 wakes 1";
        rest(two + ";takes m x 1;takes n y 1", 1, 2, 0, 1);
        rest(two + ";takes m x 1;takes n y 1", 0, 4, 0, 0);
        rest(two + ";takes m y 2", 2, 1, 1, 1);
        // 120 and 60: two persons on the first, one on the second.
        rest(three + ";takes m x 0;takes n x 0;takes k y 0", 0, 3, 0, 0, 1);
        rest(three + ";takes m y 0;takes n y 0;takes k x 0", 0, 3, 0, 1, 1);
        // 120 by 2 is 60, no more than 60 alone: one may stay, and may go.
        rest(two + ";takes m x 0;takes n x 0;takes k y 0", 0, 3, 0, 0);
        rest(five + ";tram z crowd 0 worth 1;tram w crowd 0 worth 1", 0, 1024, 0, 0, 0, 0, 0);
        rest(five + ";tram z crowd 0 worth 1;tram w crowd 0 worth 1;takes m w 1;rides p x 1", 1, 1, 3, 3, 3, 3, 3);
    }

    private static void choiceRefusals() {
        SecondPaper none = CHECK.college(BASE + ";person p plain room 1 wakes 1", 1);
        CHECK.refused(none, "rests(0)", none.rests(0), 6);
        CHECK.refused(none, "rests(9)", none.rests(9), 6);
        CHECK.refused(none, "restOf(0, 0)", none.restOf(0, 0), 6);
        CHECK.refused(none, "restOf(9, 0)", none.restOf(9, 0), 6);
        CHECK.refused(none, "restOf(0, 1)", none.restOf(0, 1), 1);
        SecondPaper x = trams(2, 1, 1);
        CHECK.refused(x, "rests(3)", x.rests(3), 2);
        CHECK.refused(x, "rests(-1)", x.rests(-1), 2);
        CHECK.refused(x, "restOf(3, 0)", x.restOf(3, 0), 2);
        CHECK.refused(x, "restOf(-1, 0)", x.restOf(-1, 0), 2);
        CHECK.refused(x, "restOf(0, 2)", x.restOf(0, 2), 1);
        CHECK.refused(x, "restOf(3, -1)", x.restOf(3, -1), 1);
    }
}
