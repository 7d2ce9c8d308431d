import java.util.LinkedHashMap;
import java.util.Map;
import java.util.function.Supplier;

/** The edges of ACTS and of TROUBLE, and of promises 38 to 46. */
final class ActEdges {
    private static final int[] WRONG = {-1, -2, Integer.MIN_VALUE, Integer.MAX_VALUE};
    private static final String TEXT = "college days 3 limit 30;thing e egg weighs 0;thing l live weighs 10;thing d dead weighs 0;thing c dead weighs 50"
        + ";person p plain room 2 wakes 10;person q tailor room 2 wakes 10;person r plain room 0 wakes 10;tram x crowd 0 worth 1"
        + ";giver m skill 0;giver n skill 0;rides p x 0;rides q x 0;rides r x 0;takes m x 0;rides p x 2;takes n x 2";

    private final Check check;

    ActEdges(Check check) {
        this.check = check;
    }

    void run() {
        atFirst();
        give();
        day();
        sew();
        undo();
        sixteen();
        marks();
        back();
        led();
        sizes();
        troubleOfTheLatest();
        troubles();
        manyCalls();
    }

    private static SecondPaper paper() {
        return Check.told(TEXT);
    }

    /** Something of each sort has been done, and is marked. */
    private static SecondPaper worn() {
        SecondPaper x = paper();
        x.give(0, 0, 0);
        x.mark();
        x.give(0, 3, 0);
        x.sew(0);
        return x;
    }

    private static Supplier<SecondPaper> of(String text) {
        return () -> Check.told(text);
    }

    private void atFirst() {
        check.term("III", "NOW is day 0 at first, nobody has anything.");
        SecondPaper x = paper();
        check.is("day", x.size(10), 0);
        for (int t = 0; t < 4; t++) {
            check.fine(x, "thing(" + t + ", 2)", x.thing(t, 2), -2);
        }
        for (int p = 0; p < 3; p++) {
            check.fine(x, "person(" + p + ", 3)", x.person(p, 3), 0);
        }
        check.is("ACTS", x.size(11), 0);
        check.is("MARKS", x.size(12), 0);
    }

    private void give() {
        check.term("III", "ACTS: GIVE (on the day NOW, a GIFT where nothing is drawn),");
        SecondPaper x = paper();
        x.day();
        check.refused(x, "give on day 1", x.give(0, 0, 0), 5);
        x.day();
        check.refused(x, "give by m on day 2", x.give(0, 0, 0), 5);
        check.fine(x, "give by n on day 2", x.give(1, 0, 0), 0);
        check.promise(38, "GIVE: what comes of it, 0 or 1, as for would().");
        SecondPaper y = paper();
        check.fine(y, "would", y.would(0, 0, 0), 0);
        check.fine(y, "give", y.give(0, 0, 0), 0);
        check.fine(y, "would", y.would(0, 3, 0), 1);
        check.fine(y, "give", y.give(0, 3, 0), 1);
        check.is("both are ACTS", y.size(11), 2);
        check.fine(y, "who has c", y.thing(3, 2), -2);
        check.fine(y, "how often caught", y.giver(0, 2), 1);
        check.promise(38, "NONE: 1;");
        int[] counts = {2, 4, 3};
        for (int at = 0; at < 3; at++) {
            for (int wrong : new int[] {-1, Integer.MIN_VALUE, Integer.MAX_VALUE, counts[at]}) {
                int[] a = {0, 0, 0};
                a[at] = wrong;
                check.refuses(ActEdges::worn, "give(" + a[0] + ", " + a[1] + ", " + a[2] + ")", 1, p -> p.give(a[0], a[1], a[2]));
            }
        }
        check.promise(38, "5 (2, 3, 4: it isn't done).");
        check.refuses(ActEdges::worn, "give(1, 1, 0), not together", 5, p -> p.give(1, 1, 0));
        check.refuses(ActEdges::worn, "give(0, 0, 1), gone", 5, p -> p.give(0, 0, 1));
        check.refuses(ActEdges::worn, "give(0, 1, 0), full", 5, p -> p.give(0, 1, 0));
        check.refuses(ActEdges::worn, "give(0, 1, 2), no ROOM", 5, p -> p.give(0, 1, 2));
        SecondPaper z = worn();
        z.give(0, 1, 0);
        check.fine(z, "undo", z.undo());
        check.fine(z, "what is undone was the sewing", z.person(0, 1), 2);
        check.fine(z, "the gift is as it was", z.person(0, 3), 1);
    }

    private void day() {
        check.term("III", "DAY (the next one; behind the last it is day 0 again),");
        check.promise(39, "DAY: which it is then.");
        for (int days = 2; days <= 7; days++) {
            SecondPaper x = Check.told(TEXT.replace("days 3", "days " + days).replace(" x 2", " x 1"));
            for (int n = 1; n <= 2 * days; n++) {
                check.fine(x, "day() of " + days, x.day(), n % days);
                check.is("size(10)", x.size(10), n % days);
                check.is("ACTS", x.size(11), n);
            }
        }
        SecondPaper x = worn();
        String before = Check.stateOf(x).replaceAll("sizes.*, things", "");
        x.day();
        check.same("day()", Check.stateOf(x).replaceAll("sizes.*, things", ""), before);
        check.promise(39, "NONE: 1 (no COLLEGE).");
        check.refuses(SecondPaper::new, "day()", 1, SecondPaper::day);
    }

    private void sew() {
        check.term("III", "SEW (a person's ROOM is one less).");
        check.promise(40, "SEW: true;");
        for (int told = 0; told <= 9; told++) {
            SecondPaper x = Check.told(TEXT.replace("p plain room 2", "p plain room " + told));
            for (int room = told - 1; room >= 0; room--) {
                check.fine(x, "sew(0)", x.sew(0));
                check.fine(x, "ROOM", x.person(0, 1), room);
                check.is("ACTS", x.size(11), told - room);
            }
            check.refused(x, "sew(0), no ROOM", x.sew(0), 5);
        }
        SecondPaper tailor = Check.told(TEXT.replace("q tailor room 2", "q tailor room 9"));
        for (int room = 3; room >= 0; room--) {
            check.fine(tailor, "sew(1)", tailor.sew(1));
            check.fine(tailor, "ROOM of a tailor", tailor.person(1, 1), room);
        }
        check.refused(tailor, "sew(1), no ROOM", tailor.sew(1), 5);
        check.fine(tailor, "another's ROOM", tailor.person(0, 1), 2);
        // What is had stays, though there is no ROOM for it.
        SecondPaper had = paper();
        had.give(0, 0, 0);
        had.give(0, 2, 0);
        check.fine(had, "sew(0) of one who is full", had.sew(0));
        check.fine(had, "sew(0) again", had.sew(0));
        check.fine(had, "what is had", had.person(0, 3), 5);
        check.refused(had, "sew(0), no ROOM", had.sew(0), 5);
        check.promise(40, "false: 1;");
        for (int wrong : new int[] {-1, 3, Integer.MIN_VALUE, Integer.MAX_VALUE}) {
            check.refuses(ActEdges::worn, "sew(" + wrong + ")", 1, x -> x.sew(wrong));
        }
        check.promise(40, "5 (there is no ROOM).");
        check.refuses(ActEdges::worn, "sew(2)", 5, x -> x.sew(2));
        check.refuses(of(TEXT.replace("q tailor room 2", "q tailor room 1")), "sew(1)", 5, x -> x.sew(1));
    }

    // ---- UNDO

    private void undo() {
        check.term("III", "UNDO: the latest (16 are kept).");
        check.promise(41, "UNDO: true;");
        Map<String, Check.Call> acts = new LinkedHashMap<>();
        acts.put("give", x -> x.give(0, 0, 0));
        acts.put("give, caught", x -> x.give(0, 3, 0));
        acts.put("sew", x -> x.sew(0));
        acts.put("day", x -> x.day());
        acts.put("day again", x -> x.day());
        acts.put("behind the last day", x -> x.day());
        acts.put("give another", x -> x.give(0, 2, 1));
        String[] states = new String[acts.size()];
        SecondPaper x = paper();
        int n = 0;
        for (Check.Call act : acts.values()) {
            states[n] = Check.stateOf(x);
            act.of(x);
            n++;
            check.is("ACTS", x.size(11), n);
        }
        for (n = acts.size() - 1; n >= 0; n--) {
            check.fine(x, "undo()", x.undo());
            check.same("undo()", Check.stateOf(x), states[n]);
        }
        check.promise(41, "false: 6.");
        check.refused(x, "undo() of nothing", x.undo(), 6);
        check.same("undo() of nothing", Check.stateOf(x), states[0]);
        check.refuses(SecondPaper::new, "undo()", 6, SecondPaper::undo);
        check.refuses(ActEdges::paper, "undo()", 6, SecondPaper::undo);
    }

    private void sixteen() {
        check.term("III", "UNDO: the latest (16 are kept).");
        for (int acts : new int[] {1, 15, 16, 17, 31, 32, 33, 48}) {
            SecondPaper x = Check.told(TEXT.replace("days 3", "days 7"));
            for (int n = 0; n < acts; n++) {
                x.day();
            }
            int kept = Math.min(16, acts);
            check.is("ACTS of " + acts, x.size(11), kept);
            for (int n = 1; n <= kept; n++) {
                check.fine(x, "undo() " + n + " of " + acts, x.undo());
                check.is("day", x.size(10), (acts - n) % 7);
                check.is("ACTS", x.size(11), kept - n);
            }
            check.refused(x, "undo() of no more", x.undo(), 6);
            check.is("day", x.size(10), (acts - kept) % 7);
            // What comes behind is kept again.
            x.day();
            x.sew(0);
            check.is("ACTS", x.size(11), 2);
            check.fine(x, "undo()", x.undo());
            check.fine(x, "ROOM", x.person(0, 1), 2);
            check.fine(x, "undo()", x.undo());
            check.is("day", x.size(10), (acts - kept) % 7);
        }
        // Some undone between others: the ring goes round.
        SecondPaper x = Check.told(TEXT.replace("days 3", "days 7"));
        for (int round = 0; round < 5; round++) {
            for (int n = 0; n < 10; n++) {
                x.day();
            }
            for (int n = 0; n < 6; n++) {
                x.undo();
            }
        }
        check.is("ACTS", x.size(11), 10);
        check.is("day", x.size(10), 20 % 7);
        for (int n = 19; n >= 10; n--) {
            check.fine(x, "undo()", x.undo());
            check.is("day", x.size(10), n % 7);
        }
        check.refused(x, "undo()", x.undo(), 6);
        // The seventeenth act leaves the first for good.
        SecondPaper y = paper();
        y.give(0, 0, 0);
        for (int n = 0; n < 16; n++) {
            y.day();
        }
        for (int n = 0; n < 16; n++) {
            y.undo();
        }
        check.refused(y, "undo()", y.undo(), 6);
        check.fine(y, "the gift stays", y.thing(0, 2), 0);
    }

    // ---- MARKS

    private void marks() {
        check.term("III", "MARKS: up to 3;");
        check.promise(42, "A MARK: its number.");
        SecondPaper x = paper();
        for (int n = 0; n < 3; n++) {
            check.fine(x, "mark()", x.mark(), n);
            check.is("MARKS", x.size(12), n + 1);
            check.is("a MARK is no ACT", x.size(11), n);
            x.day();
        }
        check.promise(42, "NONE: 1 (no COLLEGE); 3.");
        check.refuses(SecondPaper::new, "mark()", 1, SecondPaper::mark);
        check.refuses(() -> {
            SecondPaper full = worn();
            full.mark();
            full.mark();
            return full;
        }, "mark()", 3, SecondPaper::mark);
        check.refused(x, "the fourth", x.mark(), 3);
        check.is("MARKS", x.size(12), 3);
        for (int n = 2; n >= 0; n--) {
            check.fine(x, "back(" + n + ")", x.back(n));
            check.is("none of the three was moved: day", x.size(10), n);
            check.refused(x, "still three", x.mark(), 3);
        }
    }

    private void back() {
        check.promise(43, "All is as by a MARK (all MARKS stay): true;");
        SecondPaper x = worn();
        String[] states = new String[3];
        x.back(0);
        states[0] = Check.stateOf(x);
        x.give(0, 3, 0);
        x.give(0, 1, 0);
        x.sew(1);
        x.day();
        x.mark();
        states[1] = Check.stateOf(x);
        x.undo();
        x.undo();
        x.mark();
        states[2] = Check.stateOf(x);
        for (int mark : new int[] {0, 2, 1, 1, 0, 1, 2, 2}) {
            check.fine(x, "back(" + mark + ")", x.back(mark));
            check.same("back(" + mark + ")", Check.stateOf(x).replaceAll("sizes.*, things", ""), states[mark].replaceAll("sizes.*, things", ""));
            check.is("day", x.size(10), mark == 1 ? 1 : 0);
            check.is("all MARKS stay", x.size(12), 3);
            x.day();
            x.sew(0);
        }
        check.term("III", "gone back to one, nothing can be undone.");
        check.fine(x, "back(0)", x.back(0));
        check.is("ACTS", x.size(11), 0);
        check.refused(x, "undo()", x.undo(), 6);
        x.day();
        check.is("ACTS", x.size(11), 1);
        check.fine(x, "undo() of what came behind", x.undo());
        check.is("day", x.size(10), 0);
        check.refused(x, "undo()", x.undo(), 6);
        // Behind sixteen acts, too; and THE TAPE is no part of it.
        for (int n = 0; n < 20; n++) {
            x.day();
        }
        x.feed(0, 0, 0, 0, 0);
        check.fine(x, "back(0)", x.back(0));
        check.refused(x, "undo()", x.undo(), 6);
        check.is("THE TAPE", x.size(13), 20);
        check.promise(43, "false: 1.");
        for (int wrong : new int[] {-1, 1, 2, 3, Integer.MIN_VALUE, Integer.MAX_VALUE}) {
            check.refuses(ActEdges::worn, "back(" + wrong + ")", 1, p -> p.back(wrong));
        }
        check.refuses(ActEdges::paper, "back(0)", 1, p -> p.back(0));
        check.refuses(SecondPaper::new, "back(0)", 1, p -> p.back(0));
        check.refused(x, "back(3) of three", x.back(3), 1);
    }

    // ---- what is told

    private void led() {
        check.promise(44, "The i-th thing, by numbers, that nobody has NOW.");
        SecondPaper x = Check.told(TEXT.replace("p plain room 2", "p plain room 9").replace("limit 30", "limit 100"));
        int[] gone = {2, 0, 3, 1};
        int[][] left = {{0, 1, 2, 3}, {0, 1, 3}, {1, 3}, {1}, {}};
        for (int n = 0; n <= 4; n++) {
            for (int i = 0; i < left[n].length; i++) {
                check.is("led(" + i + "), " + n + " being gone", x.led(i), left[n][i]);
            }
            check.promise(44, "NoSuchElementException if there is none such.");
            check.ledThrows(x, left[n].length);
            for (int wrong : WRONG) {
                check.ledThrows(x, wrong);
            }
            if (n < 4) {
                check.fine(x, "give", x.give(0, gone[n], 0), 0);
            }
        }
        check.ledThrows(new SecondPaper(), 0);
        x.undo();
        check.is("led(0), one being back", x.led(0), 1);
    }

    private void sizes() {
        check.promise(45, "0 days, 1 limit, 2 things, 3 people, 4 trams, 5 givers, 6 rides and takes, 7 GIFTS of THE PLAN, 8 found, 9 exams,"
            + " 10 the day NOW, 11 ACTS that can be undone, 12 MARKS, 13 bytes of THE TAPE.");
        SecondPaper x = Check.told("college days 7 limit 100;thing a dead weighs 0;thing b dead weighs 0;thing c dead weighs 0;thing d dead weighs 0"
            + ";person p plain room 0 wakes 0;person q plain room 0 wakes 0;person r plain room 0 wakes 0;person s plain room 0 wakes 0"
            + ";person t plain room 0 wakes 0;tram x crowd 0 worth 1;giver m skill 0;giver n skill 0;takes m x 0;rides p x 0;takes n x 0"
            + ";gives m a p 0;gives m a p 0;found b p;found a p;found d p;exam m a p x free");
        for (int n = 0; n < 13; n++) {
            x.day();
        }
        x.undo();
        x.mark();
        x.mark();
        x.feed(0, 0, 0, 0, 0);
        int[] due = {7, 100, 4, 5, 1, 2, 3, 2, 3, 1, 5, 12, 2, 20};
        for (int what = 0; what <= 13; what++) {
            check.is("size(" + what + ")", x.size(what), due[what]);
        }
        check.promise(45, "NONE for others;");
        for (SecondPaper any : new SecondPaper[] {x, new SecondPaper()}) {
            for (int wrong : new int[] {-1, -2, 14, 15, Integer.MIN_VALUE, Integer.MAX_VALUE}) {
                check.is("size(" + wrong + ")", any.size(wrong), SecondPaper.NONE);
            }
        }
        check.promise(45, "0 for what there isn't.");
        SecondPaper least = Check.told("college days 2 limit 0;thing a dead weighs 0;person p plain room 0 wakes 0;giver m skill 0");
        for (int what = 0; what <= 13; what++) {
            check.is("size(" + what + ") without a COLLEGE", new SecondPaper().size(what), 0);
            check.is("size(" + what + ") of the least", least.size(what), what == 0 ? 2 : what == 2 || what == 3 || what == 5 ? 1 : 0);
        }
        SecondPaper tape = new SecondPaper();
        tape.feed(0, 0, 0, 0, 0);
        check.is("size(13) without a COLLEGE", tape.size(13), 20);
    }

    // ---- TROUBLE

    private void troubleOfTheLatest() {
        check.promise(46, "TROUBLE.");
        check.term("IV", "TROUBLE of the latest call that may be refused (those of which a number is told here):");
        check.is("trouble() of a new object", new SecondPaper().trouble(), 0);
        Map<String, Check.Call> untold = new LinkedHashMap<>();
        untold.put("feed", x -> x.feed(0, 0, 0, 0, 0));
        untold.put("fault", x -> x.fault());
        untold.put("where", x -> x.where());
        untold.put("led", x -> x.led(0));
        untold.put("size(0)", x -> x.size(0));
        untold.put("size(99)", x -> x.size(99));
        untold.put("trouble", x -> x.trouble());
        for (Map.Entry<String, Check.Call> call : untold.entrySet()) {
            for (int trouble : new int[] {0, 1, 2, 6}) {
                SecondPaper x = Calls.paper();
                Check.Call[] first = {p -> p.dare(0), p -> p.thing(9, 0), p -> p.dare(-1), p -> p.back(0) && p.undo()};
                first[trouble == 6 ? 3 : trouble].of(x);
                check.is("trouble()", x.trouble(), trouble);
                call.getValue().of(x);
                check.is("trouble() behind " + call.getKey(), x.trouble(), trouble);
            }
        }
        SecondPaper x = new SecondPaper();
        x.dare(0);
        check.ledThrows(x, 0);
        check.is("trouble() behind led, which threw", x.trouble(), 1);
        for (int n = 0; n < 51; n++) {
            x.feed(0, 0, 0, 0, 0);
        }
        check.is("trouble() behind a full TAPE", x.trouble(), 1);
        check.term("IV", "0 it wasn't;");
        for (Map.Entry<String, Check.Call> call : Calls.all().entrySet()) {
            SecondPaper paper = Calls.paper();
            paper.dare(-1);
            call.getValue().of(paper);
            check.is("trouble() behind " + call.getKey(), paper.trouble(), 0);
        }
        x.college(1000);
        Check.tell(x, TEXT);
        check.is("trouble() behind college", x.trouble(), 0);
        x.dare(-1);
        x.soonestOf(0);
        check.is("trouble() behind soonestOf", x.trouble(), Check.told(TEXT).soonest() == -2 ? 6 : 0);
    }

    private void troubles() {
        check.term("IV", "1 there is none such;");
        check.refuses(ActEdges::worn, "thing(4, 0)", 1, x -> x.thing(4, 0));
        check.refuses(SecondPaper::new, "limit(true)", 1, x -> x.limit(true));
        check.term("IV", "2 a number;");
        check.refuses(ActEdges::worn, "rides(0, 3)", 2, x -> x.rides(0, 3));
        check.refuses(ActEdges::worn, "college(1)", 2, x -> x.college(1));
        check.term("IV", "3 no room;");
        check.refuses(() -> {
            SecondPaper x = worn();
            x.mark();
            x.mark();
            return x;
        }, "mark()", 3, SecondPaper::mark);
        check.term("IV", "4 a FAULT;");
        SecondPaper x = worn();
        check.refused(x, "college(0)", x.college(0), 4);
        check.term("IV", "5 not so;");
        check.refuses(ActEdges::worn, "give(0, 0, 0)", 5, p -> p.give(0, 0, 0));
        check.refuses(ActEdges::worn, "sew(2)", 5, p -> p.sew(2));
        check.term("IV", "6 there is none.");
        check.refuses(ActEdges::worn, "fits()", 6, SecondPaper::fits);
        check.refuses(ActEdges::paper, "undo()", 6, SecondPaper::undo);
    }

    /** An object is used for up to 512 calls: the last answers as the first. */
    private void manyCalls() {
        check.term("III", "DAY (the next one; behind the last it is day 0 again),");
        SecondPaper x = paper();
        int calls = (TEXT.length() + 19) / 20 + 1;
        for (int n = 1; calls < 490; n++, calls++) {
            check.is("day()", x.day(), n % 3);
        }
        int day = x.size(10);
        for (int n = 1; n <= 16; n++) {
            check.is("undo()", x.undo(), true);
        }
        check.is("undo()", x.undo(), false);
        check.is("day", x.size(10), (day + 17) % 3);
    }
}
