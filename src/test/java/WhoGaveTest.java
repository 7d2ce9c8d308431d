/** Promises 26 to 28: fits, could, surely. */
public final class WhoGaveTest {
    private static final Check CHECK = new Check();
    private static final String BASE = "college days 3 limit 10;thing e dead weighs 0;thing f dead weighs 5;thing h dead weighs 0"
        + ";person p plain room 1 wakes 6;person q tailor room 1 wakes 0;tram x crowd 0 worth 1"
        + ";giver m skill 0;giver n skill 1;giver k skill 60";

    public static void main(String[] args) {
        twoGiversTwoDays();
        oneGiver();
        unnoticedOnly();
        noRows();
        refusals();
        CHECK.end();
    }

    private static void twoGiversTwoDays() {
        // Each alone, so that one place of room is enough; the rows differ in who gave what.
        SecondPaper x = CHECK.college(BASE + ";rides p x 0;rides p x 2;takes m x 0;takes n x 2;found h p;found e p", 3);
        CHECK.fine(x, "fits()", x.fits(), 2);
        CHECK.fine(x, "could(0)", x.could(0), 3);
        CHECK.fine(x, "could(2)", x.could(2), 3);
        CHECK.fine(x, "surely(0)", x.surely(0), -2);
        CHECK.fine(x, "surely(2)", x.surely(2), -2);
        x.sew(0);
        x.day();
        CHECK.fine(x, "fits(), sewn up NOW", x.fits(), 2);
    }

    private static void oneGiver() {
        SecondPaper x = CHECK.college(BASE + ";rides p x 0;rides p x 1;rides p x 2;takes n x 0;takes n x 2;takes n x 1;takes m x 0"
            + ";found f p;found e p", 3);
        // f by n alone (m would be noticed): three days; e by n on the two others, or by m.
        CHECK.fine(x, "fits()", x.fits(), 9);
        CHECK.fine(x, "could(1)", x.could(1), 2);
        CHECK.fine(x, "could(0)", x.could(0), 3);
        CHECK.fine(x, "surely(1)", x.surely(1), 1);
        CHECK.fine(x, "surely(0)", x.surely(0), -2);
    }

    private static void unnoticedOnly() {
        // f can be n's alone, as m would be noticed; so n has given on that day already, and e is m's.
        SecondPaper x = CHECK.college(BASE + ";rides p x 0;takes m x 0;takes n x 0;found f p;found e p", 3);
        CHECK.fine(x, "fits()", x.fits(), 1);
        CHECK.fine(x, "surely(0)", x.surely(0), 0);
        CHECK.fine(x, "could(0)", x.could(0), 1);
        CHECK.fine(x, "surely(1)", x.surely(1), 1);
    }

    private static void noRows() {
        SecondPaper x = CHECK.college(BASE + ";rides q x 0;takes m x 0;found e q", 3);
        CHECK.fine(x, "no room of a tailor", x.fits(), 0);
        CHECK.fine(x, "could(0)", x.could(0), 0);
        CHECK.fine(x, "surely(0)", x.surely(0), -2);
        SecondPaper y = CHECK.college(BASE + ";rides p x 0;takes m x 0;found e p;found h p", 3);
        CHECK.fine(y, "one giver, one day, two things", y.fits(), 0);
        CHECK.fine(y, "could(2)", y.could(2), 0);
    }

    private static void refusals() {
        SecondPaper x = CHECK.college(BASE + ";rides p x 0;takes m x 0", 3);
        CHECK.refused(x, "fits() without", x.fits(), 6);
        CHECK.refused(x, "could(0)", x.could(0), 1);
        CHECK.refused(x, "surely(0)", x.surely(0), 1);
        SecondPaper y = CHECK.college(BASE + ";rides p x 0;takes m x 0;found h p", 3);
        CHECK.fine(y, "fits()", y.fits(), 1);
        CHECK.refused(y, "could(0)", y.could(0), 1);
        CHECK.refused(y, "could(3)", y.could(3), 1);
        CHECK.refused(y, "could(-1)", y.could(-1), 1);
        CHECK.refused(y, "surely(1)", y.surely(1), 1);
        CHECK.refused(y, "surely(7)", y.surely(7), 1);
        CHECK.fine(y, "could(2)", y.could(2), 1);
        CHECK.fine(y, "surely(2)", y.surely(2), 0);
    }
}
