import java.util.function.Supplier;

/** The edges of ALL GIVEN, NEVER and WHO GAVE, and of promises 23 to 28. */
final class GivenEdges {
    private static final int[] WRONG = {-1, -2, Integer.MIN_VALUE, Integer.MAX_VALUE};
    private static final String PEOPLE = ";person p plain room 9 wakes 0;person q plain room 9 wakes 0;person r plain room 9 wakes 0";
    private static final String GIVERS = ";giver m skill 0;giver n skill 0;giver o skill 0";
    private static final String TRAMS = ";tram x crowd 0 worth 1;tram y crowd 0 worth 1";
    private static final String LEAST = "college days 2 limit 0;thing a dead weighs 0;person p plain room 0 wakes 0;giver m skill 0";

    private final Check check;

    GivenEdges(Check check) {
        this.check = check;
    }

    void run() {
        onSomeDay();
        noneCaughtNoneFull();
        inTheirOrder();
        leastLastDay();
        theFirstByThings();
        never();
        allGivenRefusals();
        rows();
        couldAndSurely();
        whoGaveRefusals();
    }

    private static Supplier<SecondPaper> of(String text) {
        return () -> Check.told(text);
    }

    private static String things(int count) {
        String text = "";
        for (int t = 0; t < count; t++) {
            text += ";thing t" + (char) ('a' + t) + " dead weighs 0";
        }
        return text;
    }

    private static String college(int days, int limit, String rest) {
        return "college days " + days + " limit " + limit + rest;
    }

    /** SOONEST of a text: its last day, and each thing's gift. */
    private void soonest(String name, String text, int last, int... gifts) {
        check.answers(of(text), name + ": soonest()", last, x -> x.soonest());
        for (int t = 0; t < gifts.length; t++) {
            int thing = t;
            check.answers(of(text), name + ": soonestOf(" + t + ")", gifts[t], x -> x.soonestOf(thing));
        }
        if (last == -2) {
            check.refuses(of(text), name + ": soonestOf(0)", 6, x -> x.soonestOf(0));
        }
    }

    // ---- ALL GIVEN

    private void onSomeDay() {
        check.term("III", "ALL GIVEN: each thing on some day by some giver to some person, no giver giving two on one day,");
        String three = college(7, 100, things(3) + PEOPLE + GIVERS + TRAMS);
        String two = college(7, 100, things(2) + PEOPLE + GIVERS + TRAMS);
        soonest("one giver, two days", two + ";rides p x 3;takes m x 3;rides q y 5;takes m y 5", 5, 300, 501);
        soonest("one giver, one day", two + ";rides p x 3;takes m x 3;rides q x 3", -2);
        soonest("two givers, one day", two + ";rides p x 3;takes m x 3;takes n x 3", 3, 300, 310);
        soonest("two givers, on two trams", two + ";rides p x 3;takes m x 3;takes n y 3;rides r y 3", 3, 300, 312);
        soonest("a giver with nobody", two + ";rides p x 3;takes m x 3;takes n y 3", -2);
        soonest("three givers, the last day", three + ";rides p x 6;takes m x 6;takes n x 6;takes o x 6", 6, 600, 610, 620);
        String four = college(7, 100, things(4) + PEOPLE + GIVERS + TRAMS) + ";rides p x 6;takes m x 6;takes n x 6;takes o x 6";
        soonest("four things, three givers, one day", four, -2);
        soonest("four things, three givers, two days", four + ";rides q x 0;takes o x 0", 6, 21, 600, 610, 620);
        soonest("one thing", college(2, 0, things(1) + PEOPLE + GIVERS + TRAMS) + ";rides p x 1;takes m x 1", 1, 100);
    }

    private void noneCaughtNoneFull() {
        check.term("III", "from the beginning, none CAUGHT, gone, full;");
        String base = things(2) + ";person p plain room 2 wakes 10" + GIVERS + TRAMS + ";rides p x 0;takes m x 0;takes n x 0";
        soonest("the second is at the limit", college(2, 15, base), 0, 0, 10);
        soonest("the second is above it", college(2, 14, base), -2);
        soonest("room for one", college(2, 15, base.replace("room 2", "room 1")), -2);
        soonest("a tailor's half", college(2, 15, base.replace("plain room 2", "tailor room 3")), -2);
        soonest("a tailor's whole", college(2, 15, base.replace("plain room 2", "tailor room 4")), 0, 0, 10);
        soonest("another with room", college(2, 10, base + ";person q plain room 1 wakes 10;rides q x 0"), 0, 0, 11);
        String twice = college(2, 25, base.replace("plain room 2 wakes 10", "guard room 2 wakes 10"));
        soonest("a guard's second is at 30", twice, -2);
        soonest("a guard's second is at 30", twice.replace("limit 25", "limit 30"), 0, 0, 10);
        SecondPaper x = Check.told(college(2, 15, base));
        x.sew(0);
        x.give(0, 0, 0);
        x.sew(0);
        x.day();
        check.fine(x, "whatever ACTS were", x.soonest(), 0);
        check.fine(x, "whatever ACTS were", x.soonestOf(1), 10);
    }

    private void inTheirOrder() {
        check.term("III", "things on one day in their order.");
        String base = PEOPLE + GIVERS + TRAMS + ";rides p x 0;takes m x 0;takes n x 0";
        soonest("heavy, light", college(2, 9, ";thing a dead weighs 9;thing b dead weighs 4" + base), 0, 0, 10);
        soonest("light, heavy", college(2, 9, ";thing a dead weighs 4;thing b dead weighs 9" + base), -2);
        soonest("light, heavy, on two days", college(2, 9, ";thing a dead weighs 4;thing b dead weighs 9" + base + ";rides p x 1;takes o x 1"), 1, 120, 0);
        // a can be n's alone, on day 1; b on day 0 would make it harder, and n gives but one on a day.
        String later = ";thing a dead weighs 15;thing b dead weighs 0;person p plain room 9 wakes 0;giver m skill 0;giver n skill 6" + TRAMS
            + ";rides p x 0;takes m x 0;rides p x 1;takes n x 1";
        soonest("an earlier one, of a higher number, is had", college(2, 13, later), -2);
        soonest("an earlier one, of a higher number, is had", college(2, 14, later), 1, 110, 0);
        // In the order of the things, not of the givers.
        String skills = base.replace("giver m skill 0", "giver m skill 1");
        soonest("by givers", college(2, 9, ";thing a dead weighs 9;thing b dead weighs 5" + skills), 0, 10, 0);
    }

    private void leastLastDay() {
        check.term("III", "SOONEST: the last day is the least;");
        String base = college(7, 5, ";thing a dead weighs 0;thing b dead weighs 5" + PEOPLE + GIVERS + TRAMS);
        soonest("a first, b on day 4", base + ";rides p x 0;takes m x 0;rides q x 4;takes n x 4;rides r x 5;takes m x 5", 4, 0, 411);
        // q would notice b: with a on day 0, b could come on day 5 alone; with a on day 4, b can on day 0.
        soonest("a later for b's sake", base.replace("q plain room 9 wakes 0", "q plain room 9 wakes 5") + ";rides p x 0;takes m x 0;rides q x 4;takes n x 4"
            + ";rides r x 5;takes m x 5", 4, 411, 0);
        for (int day = 0; day < 7; day++) {
            soonest("day " + day, base + ";rides p x " + day + ";takes m x " + day + ";takes n x " + day + ";rides q x " + day, day, 100 * day, 100 * day + 11);
        }
    }

    private void theFirstByThings() {
        check.term("III", "of like ones the first by things: each first its day, then its giver, then its person.");
        String base = college(7, 0, things(2) + PEOPLE + GIVERS + TRAMS);
        soonest("its day ahead of its giver", base + ";rides r x 1;takes o x 1;rides p x 2;takes m x 2", 2, 122, 200);
        soonest("its giver ahead of its person", base + ";takes m x 1;rides r x 1;takes n y 1;rides p y 1", 1, 102, 110);
        soonest("its person", base + ";takes m x 1;takes n x 1;rides r x 1;rides q x 1", 1, 101, 112);
        soonest("the first thing ahead of the second", base + ";takes m x 0;rides r x 0;takes m x 1;rides p x 1;takes n x 1;rides q x 1", 1, 2, 100);
        // b can't be q's, so a is, though p would be first.
        String picky = college(7, 4, ";thing a dead weighs 0;thing b dead weighs 4" + PEOPLE.replace("q plain room 9 wakes 0", "q plain room 9 wakes 1")
            + GIVERS + TRAMS) + ";takes m x 0;takes n x 0;rides p x 0;rides q x 0";
        soonest("by what the others need", picky, 0, 1, 10);
    }

    private void never() {
        check.term("III", "NEVER: things that can't be given on any day, by anybody, to anybody, each alone from the beginning.");
        check.promise(25, "NEVER, as bits.");
        String four = ";thing a dead weighs 9;thing b dead weighs 10;thing c dead weighs 11;thing d dead weighs 12" + PEOPLE + GIVERS + TRAMS;
        check.answers(of(college(7, 10, four)), "nobody together", 15, x -> x.never());
        check.answers(of(college(7, 100, four) + ";rides p x 0;rides q x 6"), "no giver takes any", 15, x -> x.never());
        check.answers(of(college(7, 100, four) + ";takes m x 0;takes o x 6"), "nobody rides any", 15, x -> x.never());
        check.answers(of(college(7, 10, four) + ";takes o x 6;rides r x 6"), "above the limit", 12, x -> x.never());
        check.answers(of(college(7, 8, four) + ";takes o x 6;rides r x 6"), "all above", 15, x -> x.never());
        check.answers(of(college(7, 12, four) + ";takes o x 6;rides r x 6"), "none above", 0, x -> x.never());
        check.answers(of(college(7, 10, four).replace("giver n skill 0", "giver n skill 1") + ";takes o x 6;rides r x 6;takes n y 0;rides p y 0"),
            "by another on another day", 8, x -> x.never());
        check.answers(of(college(7, 12, four).replace("room 9", "room 0") + ";takes o x 6;rides r x 6"), "no ROOM", 15, x -> x.never());
        // Each alone, though only one of them could be given.
        check.answers(of(college(7, 12, four).replace("room 9", "room 1") + ";takes o x 6;rides r x 6"), "ROOM for one", 0, x -> x.never());
        SecondPaper x = Check.told(college(7, 12, four).replace("room 9", "room 1") + ";takes o x 0;rides r x 0");
        x.give(2, 0, 2);
        x.sew(2);
        check.fine(x, "whatever ACTS were", x.never(), 0);
        check.promise(25, "NONE: 1 (no COLLEGE).");
        check.refuses(SecondPaper::new, "never()", 1, SecondPaper::never);
    }

    private void allGivenRefusals() {
        check.promise(23, "SOONEST: the last day; -2 it can't be.");
        check.answers(of(LEAST), "nobody together", -2, x -> x.soonest());
        check.answers(of(LEAST.replace("room 0", "room 1") + TRAMS + ";rides p x 0;takes m x 0"), "day 0", 0, x -> x.soonest());
        check.answers(of(LEAST + TRAMS + ";rides p x 0;takes m x 0"), "no ROOM", -2, x -> x.soonest());
        check.promise(23, "NONE: 1 (no COLLEGE).");
        check.refuses(SecondPaper::new, "soonest()", 1, SecondPaper::soonest);
        check.promise(24, "Of a thing by it 100 times the day, 10 times the giver and the person.");
        String last = college(7, 0, things(1) + PEOPLE + ";person s plain room 1 wakes 0;person t plain room 1 wakes 0" + GIVERS + TRAMS)
            + ";takes o y 6;rides t y 6";
        check.answers(of(last), "soonestOf(0)", 624, x -> x.soonestOf(0));
        check.promise(24, "NONE: 1; 6 (it can't be).");
        for (int wrong : WRONG) {
            check.refuses(of(last), "soonestOf(" + wrong + ")", 1, x -> x.soonestOf(wrong));
            check.refuses(of(LEAST), "soonestOf(" + wrong + ")", 1, x -> x.soonestOf(wrong));
        }
        check.refuses(of(last), "soonestOf(1)", 1, x -> x.soonestOf(1));
        check.refuses(of(LEAST), "soonestOf(0)", 6, x -> x.soonestOf(0));
        check.refuses(of(LEAST), "soonestOf(1)", 1, x -> x.soonestOf(1));
        check.refuses(SecondPaper::new, "soonestOf(0)", 1, x -> x.soonestOf(0));
        String four = college(2, 0, things(4) + PEOPLE + GIVERS + TRAMS) + ";takes m x 0;takes n x 0;takes o x 0;takes m x 1;rides p x 0;rides q x 1;rides r x 0"
            + ";person s plain room 1 wakes 0;rides s x 0";
        soonest("the last of four things", four, 1, 0, 12, 23, 101);
        check.refuses(of(four), "soonestOf(4)", 1, x -> x.soonestOf(4));
    }

    // ---- WHO GAVE

    private void who(String text, int rows, int... could) {
        check.answers(of(text), "fits()", rows, x -> x.fits());
        for (int t = 0; t < could.length; t++) {
            int thing = t;
            int bits = could[t];
            if (bits >= 0) {
                check.answers(of(text), "could(" + t + ")", bits, x -> x.could(thing));
                check.answers(of(text), "surely(" + t + ")", Integer.bitCount(bits) == 1 ? Integer.numberOfTrailingZeros(bits) : -2, x -> x.surely(thing));
            }
        }
    }

    private void rows() {
        check.term("III", "WHO GAVE: for each thing found a giver and a day by which it can be GIVEN to that person (alone, nobody having anything),");
        check.promise(26, "WHO GAVE: how many rows.");
        String base = college(7, 10, things(4) + PEOPLE.replace("wakes 0", "wakes 10").replace("room 9", "room 1") + GIVERS + TRAMS);
        who(base + ";takes m x 0;rides p x 0;found ta p", 1, 1);
        who(base + ";takes o x 6;rides p x 6;takes n x 0;rides p x 0;found ta p", 2, 6);
        who(base + ";takes m x 0;rides p x 0;takes m x 1;rides p x 1;found ta p", 2, 1);
        who(base + ";takes m x 0;rides q x 0;found ta p", 0, 0);
        who(base + ";takes m x 0;rides p y 0;found ta p", 0, 0);
        // Above the limit; no ROOM; ROOM for one is enough for each alone, and what is had by then counts for nothing.
        who(base.replace("limit 10", "limit 9") + ";takes m x 0;rides p x 0;found ta p", 0, 0);
        who(base.replace("room 1", "room 0") + ";takes m x 0;rides p x 0;found ta p", 0, 0);
        who(base + ";takes m x 0;rides p x 0;takes n x 0;found ta p;found tc p", 2, 3, -1, 3);
        check.term("III", "no giver twice on one day: all such rows.");
        who(base + ";takes m x 0;rides p x 0;rides q x 0;found ta p;found tb q", 0, 0, 0);
        who(base + ";takes m x 0;rides p x 0;takes m x 1;rides p x 1;found ta p;found tb p", 2, 1, 1);
        who(base + ";takes m x 0;takes n x 0;takes o x 0;rides p x 0;found ta p;found tb p;found tc p", 6, 7, 7, 7);
        who(base + ";takes m x 0;takes n x 0;takes o x 0;rides p x 0;found ta p;found tb p;found tc p;found td p", 0, 0, 0, 0, 0);
        // Three givers on four days, as many as rides and takes have room for.
        String many = college(7, 10, things(4) + PEOPLE + GIVERS + TRAMS);
        for (int day = 0; day < 4; day++) {
            many += ";rides p x " + day + ";takes m x " + day + ";takes n x " + day + ";takes o x " + day;
        }
        who(many + ";found ta p;found tb p;found tc p;found td p", 12 * 11 * 10 * 9, 7, 7, 7, 7);
        SecondPaper x = Check.told(base + ";takes m x 0;rides p x 0;found ta p");
        x.give(0, 1, 0);
        x.sew(0);
        x.day();
        check.fine(x, "fits() whatever ACTS were", x.fits(), 1);
    }

    private void couldAndSurely() {
        check.term("III", "COULD of a thing: givers in some of these; SURELY: in all.");
        check.promise(27, "COULD of a thing found, as bits.");
        check.promise(28, "SURELY; -2.");
        // tb weighs 1 more, so that m, of skill 0, would be noticed with it.
        String base = college(7, 10, ";thing a dead weighs 0;thing b dead weighs 1" + PEOPLE.replace("wakes 0", "wakes 10")
            + GIVERS.replace("n skill 0", "n skill 1").replace("o skill 0", "o skill 1") + TRAMS);
        who(base + ";takes m x 0;takes n x 0;rides p x 0;found a p;found b p", 1, 1, 2);
        who(base + ";takes m x 0;takes n x 0;takes o x 0;rides p x 0;found a p;found b p", 4, 7, 6);
        who(base + ";takes o x 6;rides r x 6;found b r", 1, -1, 4);
        // A giver in some rows of each, but never of both on that one day.
        who(base + ";takes n x 0;takes o x 0;rides p x 0;found a p;found b p", 2, 6, 6);
        // Without rows there is nobody in any.
        who(base + ";found a p", 0, 0);
    }

    private void whoGaveRefusals() {
        String base = college(7, 10, things(3) + PEOPLE + GIVERS + TRAMS) + ";takes m x 0;rides p x 0";
        String found = base + ";found tb p";
        check.promise(26, "NONE: 1 (no COLLEGE); 6 (nothing is found).");
        check.refuses(SecondPaper::new, "fits()", 1, SecondPaper::fits);
        check.refuses(of(base), "fits()", 6, SecondPaper::fits);
        check.promise(27, "NONE: 1 (it isn't found).");
        check.refuses(SecondPaper::new, "could(0)", 1, x -> x.could(0));
        check.refuses(of(base), "could(0)", 1, x -> x.could(0));
        for (int wrong : new int[] {-1, -2, Integer.MIN_VALUE, Integer.MAX_VALUE, 0, 2, 3}) {
            check.refuses(of(found), "could(" + wrong + ")", 1, x -> x.could(wrong));
        }
        check.answers(of(found), "could(1)", 1, x -> x.could(1));
        check.promise(28, "NONE: likewise.");
        check.refuses(SecondPaper::new, "surely(0)", 1, x -> x.surely(0));
        check.refuses(of(base), "surely(0)", 1, x -> x.surely(0));
        for (int wrong : new int[] {-1, -2, Integer.MIN_VALUE, Integer.MAX_VALUE, 0, 2, 3}) {
            check.refuses(of(found), "surely(" + wrong + ")", 1, x -> x.surely(wrong));
        }
        check.answers(of(found), "surely(1)", 0, x -> x.surely(1));
    }
}
