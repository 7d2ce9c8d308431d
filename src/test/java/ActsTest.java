/** Promises 38 to 43: give, day, sew, undo, mark, back. */
public final class ActsTest {
    private static final Check CHECK = new Check();
    private static final String TEXT = "college days 3 limit 30"
        + ";thing e egg weighs 5;thing l live weighs 10;thing d dead weighs 2;thing c dead weighs 50"
        + ";person a plain room 2 wakes 30;person b plain room 1 wakes 20;person t tailor room 3 wakes 1;tram x crowd 10 worth 1"
        + ";giver m skill 5;giver n skill 15;rides a x 0;rides b x 0;rides a x 2;takes m x 0;takes n x 0;takes n x 2";

    public static void main(String[] args) {
        give();
        refusedGive();
        day();
        sew();
        undo();
        sixteenAreKept();
        marks();
        backForgetsActs();
        CHECK.end();
    }

    private static SecondPaper paper() {
        return CHECK.college(TEXT, 4);
    }

    private static void give() {
        SecondPaper x = paper();
        CHECK.fine(x, "give", x.give(0, 0, 0), 0);
        CHECK.fine(x, "who has it", x.thing(0, 2), 0);
        CHECK.fine(x, "score", x.giver(0, 1), 2);
        CHECK.is("ACTS", x.size(11), 1);
        CHECK.fine(x, "caught", x.give(0, 3, 0), 1);
        CHECK.fine(x, "the thing stays", x.thing(3, 2), -2);
        CHECK.fine(x, "score", x.giver(0, 1), 0);
        CHECK.fine(x, "how often", x.giver(0, 2), 1);
        CHECK.is("caught is an act", x.size(11), 2);
        CHECK.fine(x, "by another", x.give(1, 1, 0), 0);
        CHECK.fine(x, "live", x.giver(1, 1), 4);
        CHECK.fine(x, "things", x.person(0, 3), 3);
        CHECK.fine(x, "a giver may give again on a day", x.give(1, 2, 1), 0);
        CHECK.fine(x, "dead", x.giver(1, 1), 5);
    }

    private static void refusedGive() {
        SecondPaper x = paper();
        x.give(0, 0, 1);
        CHECK.refused(x, "gone", x.give(0, 0, 0), 5);
        CHECK.refused(x, "full", x.give(0, 1, 1), 5);
        CHECK.refused(x, "not together", x.give(0, 1, 2), 5);
        CHECK.refused(x, "give(2, 0, 0)", x.give(2, 0, 0), 1);
        CHECK.refused(x, "give(0, 4, 0)", x.give(0, 4, 0), 1);
        CHECK.refused(x, "give(0, 0, 3)", x.give(0, 0, 3), 1);
        CHECK.refused(x, "give(-1, 0, 0)", x.give(-1, 0, 0), 1);
        CHECK.is("no more ACTS", x.size(11), 1);
        CHECK.fine(x, "score", x.giver(0, 1), 2);
        CHECK.fine(x, "how often", x.giver(0, 2), 0);
        CHECK.fine(x, "things", x.person(1, 3), 1);
        x.day();
        CHECK.refused(x, "on another day", x.give(0, 1, 0), 5);
        x.day();
        CHECK.fine(x, "on the day NOW", x.give(1, 1, 0), 0);
    }

    private static void day() {
        SecondPaper x = paper();
        CHECK.fine(x, "day()", x.day(), 1);
        CHECK.fine(x, "day()", x.day(), 2);
        CHECK.is("size(10)", x.size(10), 2);
        CHECK.fine(x, "day()", x.day(), 0);
        CHECK.is("ACTS", x.size(11), 3);
        CHECK.fine(x, "would on day 0", x.would(0, 0, 0), 0);
    }

    private static void sew() {
        SecondPaper x = paper();
        CHECK.fine(x, "sew(2)", x.sew(2));
        CHECK.fine(x, "room of a tailor", x.person(2, 1), 0);
        CHECK.refused(x, "sew(2) again", x.sew(2), 5);
        x.give(0, 0, 1);
        CHECK.fine(x, "sew(1), though full", x.sew(1));
        CHECK.fine(x, "what is had stays", x.person(1, 3), 1);
        CHECK.fine(x, "spare", x.spare(1), 0);
        CHECK.refused(x, "sew(1) again", x.sew(1), 5);
        CHECK.refused(x, "sew(3)", x.sew(3), 1);
        CHECK.refused(x, "sew(-1)", x.sew(-1), 1);
        CHECK.is("ACTS", x.size(11), 3);
        CHECK.fine(x, "sew(0)", x.sew(0));
        CHECK.fine(x, "room", x.person(0, 1), 1);
        CHECK.fine(x, "undone", x.undo());
        CHECK.fine(x, "room", x.person(0, 1), 2);
    }

    private static void undo() {
        SecondPaper x = paper();
        CHECK.refused(x, "undo()", x.undo(), 6);
        x.give(0, 0, 0);
        x.give(0, 3, 0);
        x.day();
        x.sew(0);
        CHECK.fine(x, "undo sew", x.undo());
        CHECK.fine(x, "room", x.person(0, 1), 2);
        CHECK.is("day", x.size(10), 1);
        CHECK.fine(x, "undo day", x.undo());
        CHECK.is("day", x.size(10), 0);
        CHECK.fine(x, "how often", x.giver(0, 2), 1);
        CHECK.fine(x, "undo caught", x.undo());
        CHECK.fine(x, "how often", x.giver(0, 2), 0);
        CHECK.fine(x, "score", x.giver(0, 1), 2);
        CHECK.fine(x, "undo give", x.undo());
        CHECK.fine(x, "who has it", x.thing(0, 2), -2);
        CHECK.fine(x, "score", x.giver(0, 1), 0);
        CHECK.is("ACTS", x.size(11), 0);
        CHECK.refused(x, "undo()", x.undo(), 6);
        // Behind the last day, back to it.
        x.day();
        x.day();
        x.day();
        x.undo();
        CHECK.is("day", x.size(10), 2);
    }

    private static void sixteenAreKept() {
        SecondPaper x = paper();
        x.give(0, 0, 0);
        for (int i = 0; i < 20; i++) {
            CHECK.fine(x, "day()", x.day(), (i + 1) % 3);
            CHECK.is("ACTS", x.size(11), Math.min(16, i + 2));
        }
        for (int i = 15; i >= 0; i--) {
            CHECK.fine(x, "undo()", x.undo());
            CHECK.is("ACTS", x.size(11), i);
            CHECK.is("day", x.size(10), (i + 4) % 3);
        }
        CHECK.refused(x, "undo()", x.undo(), 6);
        CHECK.is("day", x.size(10), 1);
        CHECK.fine(x, "given, not to be undone", x.thing(0, 2), 0);
        x.sew(0);
        CHECK.is("ACTS", x.size(11), 1);
        CHECK.fine(x, "undo()", x.undo());
        CHECK.fine(x, "room", x.person(0, 1), 2);
    }

    private static void marks() {
        SecondPaper x = paper();
        CHECK.refused(x, "back(0)", x.back(0), 1);
        CHECK.fine(x, "mark()", x.mark(), 0);
        x.give(0, 0, 0);
        x.give(1, 3, 0);
        x.sew(1);
        x.day();
        CHECK.fine(x, "mark()", x.mark(), 1);
        CHECK.is("MARKS", x.size(12), 2);
        CHECK.is("no act", x.size(11), 4);
        CHECK.refused(x, "back(2)", x.back(2), 1);
        CHECK.refused(x, "back(-1)", x.back(-1), 1);
        CHECK.is("ACTS", x.size(11), 4);
        CHECK.fine(x, "back(0)", x.back(0));
        CHECK.is("day", x.size(10), 0);
        CHECK.fine(x, "who has it", x.thing(0, 2), -2);
        CHECK.fine(x, "score", x.giver(0, 1), 0);
        CHECK.fine(x, "how often", x.giver(1, 2), 0);
        CHECK.fine(x, "room", x.person(1, 1), 1);
        CHECK.is("all MARKS stay", x.size(12), 2);
        CHECK.fine(x, "mark()", x.mark(), 2);
        CHECK.refused(x, "mark()", x.mark(), 3);
        CHECK.is("MARKS", x.size(12), 3);
        CHECK.fine(x, "back(1)", x.back(1));
        CHECK.is("day", x.size(10), 1);
        CHECK.fine(x, "who has it", x.thing(0, 2), 0);
        CHECK.fine(x, "score", x.giver(0, 1), 2);
        CHECK.fine(x, "how often", x.giver(1, 2), 1);
        CHECK.fine(x, "room", x.person(1, 1), 0);
        CHECK.fine(x, "back(2)", x.back(2));
        CHECK.fine(x, "back(1) again", x.back(1));
        CHECK.fine(x, "who has it", x.thing(0, 2), 0);
    }

    private static void backForgetsActs() {
        SecondPaper x = paper();
        x.mark();
        x.give(0, 0, 0);
        x.day();
        CHECK.fine(x, "back(0)", x.back(0));
        CHECK.is("ACTS", x.size(11), 0);
        CHECK.refused(x, "undo()", x.undo(), 6);
        x.day();
        CHECK.fine(x, "undo()", x.undo());
        CHECK.is("day", x.size(10), 0);
        CHECK.refused(x, "undo()", x.undo(), 6);
        // Undoing goes behind a mark, which stays.
        x.day();
        x.mark();
        x.undo();
        CHECK.is("MARKS", x.size(12), 2);
        CHECK.fine(x, "back(1)", x.back(1));
        CHECK.is("day", x.size(10), 1);
        Check.feedAll(x, new byte[20]);
        CHECK.fine(x, "back(0)", x.back(0));
        CHECK.is("THE TAPE is no part of it", x.size(13), 20);
    }
}
