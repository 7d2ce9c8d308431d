/** Promises 36 and 37: drawn, caught. */
public final class DrawsTest {
    private static final Check CHECK = new Check();
    private static final String BASE = "college days 2 limit 0;thing e dead weighs 0;thing f dead weighs 0"
        + ";tram x crowd 0 worth 1;giver m skill 0;giver n skill 0";

    public static void main(String[] args) {
        oneGift();
        neverAndAlways();
        hinderedDrawNothing();
        refusals();
        CHECK.end();
    }

    private static int next(int seed) {
        return (75 * seed + 74) % 65537;
    }

    private static void oneGift() {
        SecondPaper x = CHECK.college(BASE + ";person p plain room 1 wakes 37;rides p x 1;takes m x 1;gives m e p 1", 2);
        int[] seeds = {0, 1, 2, 3, 4, 5, 99, 100, 1000, 65535, 65536, 43690, 12345};
        for (int seed : seeds) {
            int given = next(seed) % 100 < 37 ? 0 : 1;
            CHECK.fine(x, "drawn(" + seed + ")", x.drawn(seed), given);
            int times = 0;
            int now = seed;
            for (int n = 1; n <= 50; n++) {
                now = next(now);
                times += now % 100 < 37 ? 1 : 0;
                if (n == 1 || n == 7 || n == 50) {
                    CHECK.fine(x, "caught(0, " + seed + ", " + n + ")", x.caught(0, seed, n), times);
                    CHECK.fine(x, "caught(1, " + seed + ", " + n + ")", x.caught(1, seed, n), 0);
                }
            }
        }
        CHECK.fine(x, "by ACTS, not by draws", x.giver(0, 2), 0);
        CHECK.fine(x, "THE PLAN itself", x.planned(0), 1);
    }

    private static void neverAndAlways() {
        SecondPaper x = CHECK.college(BASE + ";person p plain room 1 wakes 0;person q guard room 1 wakes 50;rides p x 0;rides q x 0"
            + ";takes m x 0;gives m e q 0;gives m e p 0", 2);
        for (int seed = 0; seed < 200; seed += 7) {
            CHECK.fine(x, "drawn", x.drawn(seed), 1);
            CHECK.fine(x, "caught", x.caught(0, seed, 50), 50);
        }
    }

    /** Gifts that aren't together, gone or full leave the SEED as it is; days go in order. */
    private static void hinderedDrawNothing() {
        SecondPaper x = CHECK.college(BASE + ";person p plain room 1 wakes 50;person q plain room 0 wakes 50"
            + ";rides p x 0;rides p x 1;rides q x 0;takes m x 0;takes n x 1"
            + ";gives n e p 1;gives n e p 0;gives m f q 0;gives m e p 0;gives n f p 1", 2);
        for (int seed = 0; seed < 300; seed++) {
            int now = seed;
            int given = 0;
            int byM = 0;
            int byN = 0;
            now = next(now);
            if (now % 100 < 50) {
                byM++;
                now = next(now);
                if (now % 100 < 50) {
                    byN++;
                } else {
                    given++;
                }
            } else {
                given++;
            }
            if (given == 0) {
                now = next(now);
                if (now % 100 < 50) {
                    byN++;
                } else {
                    given++;
                }
            }
            CHECK.fine(x, "drawn(" + seed + ")", x.drawn(seed), given);
            CHECK.fine(x, "caught(0, " + seed + ", 1)", x.caught(0, seed, 1), byM);
            CHECK.fine(x, "caught(1, " + seed + ", 1)", x.caught(1, seed, 1), byN);
            CHECK.fine(x, "SEED goes on", x.caught(1, seed, 2), byN + x.caught(1, now, 1));
        }
    }

    private static void refusals() {
        SecondPaper x = CHECK.college(BASE + ";person p plain room 1 wakes 50", 2);
        CHECK.fine(x, "no GIFTS", x.drawn(65536), 0);
        CHECK.refused(x, "drawn(-1)", x.drawn(-1), 2);
        CHECK.refused(x, "drawn(65537)", x.drawn(65537), 2);
        CHECK.refused(x, "drawn(MIN)", x.drawn(Integer.MIN_VALUE), 2);
        CHECK.fine(x, "caught(0, 65536, 50)", x.caught(0, 65536, 50), 0);
        CHECK.refused(x, "caught(2, 0, 1)", x.caught(2, 0, 1), 1);
        CHECK.refused(x, "caught(-1, -1, 0)", x.caught(-1, -1, 0), 1);
        CHECK.refused(x, "caught(0, -1, 1)", x.caught(0, -1, 1), 2);
        CHECK.refused(x, "caught(0, 65537, 1)", x.caught(0, 65537, 1), 2);
        CHECK.refused(x, "caught(0, 0, 0)", x.caught(0, 0, 0), 2);
        CHECK.refused(x, "caught(0, 0, 51)", x.caught(0, 0, 51), 2);
    }
}
