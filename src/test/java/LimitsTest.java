/** Promises 33 to 35: limit, dare, honours. */
public final class LimitsTest {
    private static final Check CHECK = new Check();
    // NEAR of a: 20, of b: 45, of c: 0, of o: 100.
    private static final String BASE = "college days 2 limit 0;thing e dead weighs 0;tram x crowd 5 worth 1;giver m skill 0"
        + ";person a plain room 0 wakes 25;person b bishop room 1 wakes 70;person c plain room 1 wakes 5;person o guard room 1 wakes 99";

    public static void main(String[] args) {
        limits();
        actsChangeNothing();
        dares();
        dareRefusals();
        CHECK.end();
    }

    private static void limit(String exams, int least, int most) {
        SecondPaper x = CHECK.college(BASE + exams, 1);
        CHECK.fine(x, "limit(false)" + exams, x.limit(false), least);
        CHECK.fine(x, "limit(true)" + exams, x.limit(true), most);
    }

    private static void limits() {
        limit("", 0, 100);
        limit(";exam m e a x free", 20, 100);
        limit(";exam m e a x caught", 0, 19);
        limit(";exam m e b x caught;exam m e a x free", 20, 44);
        limit(";exam m e a x free;exam m e b x free;exam m e o x caught", 45, 99);
        limit(";exam m e b x caught;exam m e o x caught", 0, 44);
        limit(";exam m e a x caught;exam m e b x free", -2, -2);
        limit(";exam m e a x caught;exam m e a x free", -2, -2);
        limit(";exam m e c x caught", -2, -2);
        limit(";exam m e c x free", 0, 100);
        limit(";exam m e o x free", 100, 100);
    }

    private static void actsChangeNothing() {
        SecondPaper x = CHECK.college(BASE.replace("limit 0", "limit 100") + ";rides b x 0;takes m x 0;exam m e b x free", 1);
        x.give(0, 0, 1);
        CHECK.fine(x, "near NOW", x.near(0, 0, 1, 0), 50);
        CHECK.fine(x, "limit(false)", x.limit(false), 45);
    }

    private static void dare(SecondPaper x, int chance, int steps, long upper, long lower) {
        CHECK.fine(x, "dare(" + chance + ")", x.dare(chance), steps);
        CHECK.fine(x, "honours(" + chance + ", false)", x.honours(chance, false), upper);
        CHECK.fine(x, "honours(" + chance + ", true)", x.honours(chance, true), lower);
    }

    private static void dares() {
        SecondPaper x = CHECK.college(BASE, 1);
        dare(x, 0, 8, 8, 1);
        dare(x, 1, 8, 9227446944279201L, 1250000000000000L);
        dare(x, 12, 8, 8 * power(22, 8), power(25, 8));
        dare(x, 13, 7, 7 * power(87, 7), power(100, 7));
        dare(x, 20, 4, 1024, 625);
        dare(x, 25, 3, 81, 64);
        dare(x, 50, 1, 1, 2);
        dare(x, 51, 1, 49, 100);
        dare(x, 99, 1, 1, 100);
        dare(x, 100, 0, 0, 1);
    }

    private static long power(long base, int times) {
        return times == 0 ? 1 : base * power(base, times - 1);
    }

    private static void dareRefusals() {
        SecondPaper x = CHECK.college(BASE, 1);
        CHECK.refused(x, "dare(-1)", x.dare(-1), 2);
        CHECK.refused(x, "dare(101)", x.dare(101), 2);
        CHECK.refused(x, "honours(-1, false)", x.honours(-1, false), 2);
        CHECK.refused(x, "honours(101, true)", x.honours(101, true), 2);
        CHECK.refused(x, "honours(MIN, true)", x.honours(Integer.MIN_VALUE, true), 2);
    }
}
