import java.util.Arrays;
import java.util.Map;

/** The edges of promises 1 to 5: a new object, feed, college, fault, where. */
final class TapeEdges {
    private static final int LOW = Integer.MIN_VALUE;
    private static final int HIGH = Integer.MAX_VALUE;
    private static final String TEXT = Calls.TEXT;

    private final Check check;

    TapeEdges(Check check) {
        this.check = check;
    }

    void run() {
        newObject();
        feed();
        fullTape();
        firstBytes();
        newCollege();
        badNumbers();
        faults();
        fault();
        where();
    }

    private void newObject() {
        check.promise(1, "No COLLEGE.");
        SecondPaper x = new SecondPaper();
        check.is("trouble()", x.trouble(), 0);
        check.is("fault()", x.fault(), 0);
        check.is("where()", x.where(), SecondPaper.NONE);
        for (int what = 0; what <= 13; what++) {
            check.is("size(" + what + ")", x.size(what), 0);
        }
        check.ledThrows(x, 0);
        for (Map.Entry<String, Check.Call> call : Calls.all().entrySet()) {
            check.refuses(SecondPaper::new, call.getKey(), call.getKey().equals("undo()") ? 6 : 1, call.getValue());
        }
        check.refuses(SecondPaper::new, "soonestOf(0)", 1, p -> p.soonestOf(0));
        check.refuses(SecondPaper::new, "college(1)", 2, p -> p.college(1));
        // Without a COLLEGE a wrong number is none such too.
        check.refuses(SecondPaper::new, "rides(0, -1)", 1, p -> p.rides(0, -1));
        check.refuses(SecondPaper::new, "takes(0, 7)", 1, p -> p.takes(0, 7));
        check.refuses(SecondPaper::new, "riders(0, 7)", 1, p -> p.riders(0, 7));
        check.refuses(SecondPaper::new, "planHas(0, 7)", 1, p -> p.planHas(0, 7));
        check.refuses(SecondPaper::new, "planScore(0, 7)", 1, p -> p.planScore(0, 7));
        check.refuses(SecondPaper::new, "rests(7)", 1, p -> p.rests(7));
        check.refuses(SecondPaper::new, "restOf(7, 0)", 1, p -> p.restOf(7, 0));
        check.refuses(SecondPaper::new, "dare(101)", 1, p -> p.dare(101));
        check.refuses(SecondPaper::new, "honours(-1, true)", 1, p -> p.honours(-1, true));
        check.refuses(SecondPaper::new, "drawn(65537)", 1, p -> p.drawn(65537));
        check.refuses(SecondPaper::new, "caught(0, -1, 0)", 1, p -> p.caught(0, -1, 0));
    }

    // ---- feed

    private void feed() {
        check.promise(2, "Twenty bytes come behind THE TAPE, of each number the highest first: how many it has;");
        for (int sign : new int[] {'!', 0, 127, 128, 255}) {
            for (int at = 0; at < 60; at++) {
                byte[] bytes = new byte[60];
                Arrays.fill(bytes, (byte) ' ');
                bytes[at] = (byte) sign;
                SecondPaper x = new SecondPaper();
                Check.feedAll(x, bytes);
                check.is("bytes", x.size(13), 60);
                x.college(60);
                check.is("byte " + at + " of 60, " + sign, x.where(), at);
            }
        }
        SecondPaper x = new SecondPaper();
        check.is("feed", x.feed(0x636F6C6C, 0x65676520, 0x64617973, 0x2033206C, 0x696D6974), 20);
        check.is("feed", x.feed(0x20333020, 0x21202020, LOW, HIGH, -1), 40);
        x.college(40);
        check.is("\"college days 3 limit 30 !\"", x.where(), 24);
        check.is("feed of an empty tape", x.feed(0, 0, 0, 0, 0), 20);
    }

    private void fullTape() {
        check.promise(2, "NONE, and none comes, if there would be more than 1,000.");
        SecondPaper x = new SecondPaper();
        for (int n = 1; n <= 49; n++) {
            check.is("feed", x.feed(0x20202020, 0x20202020, 0x20202020, 0x20202020, 0x20202020), 20 * n);
        }
        check.is("the fiftieth", x.feed(0x20202020, 0x20202020, 0x20202020, 0x20202020, 0x20202021), 1000);
        x.dare(0);
        for (int n = 0; n < 3; n++) {
            check.is("one more", x.feed(-1, -1, -1, -1, -1), SecondPaper.NONE);
            check.is("bytes", x.size(13), 1000);
            check.is("feed tells no number of TROUBLE", x.trouble(), 1);
        }
        check.is("college(1000)", x.college(1000), SecondPaper.NONE);
        check.is("the bytes are as they were", x.where(), 999);
        check.is("feed of the emptied tape", x.feed(0, 0, 0, 0, 0), 20);
    }

    // ---- college

    private void firstBytes() {
        check.promise(3, "The first n bytes of THE TAPE (it is empty then) are the COLLEGE from now on");
        SecondPaper x = new SecondPaper();
        Check.feedAll(x, (TEXT + "!!!; thing").getBytes());
        check.fine(x, "college of the first bytes", x.college(TEXT.length()), 2);
        check.is("bytes of THE TAPE", x.size(13), 0);
        check.refused(x, "college(1) of an empty tape", x.college(1), 2);
        check.refused(x, "college(0) of an empty tape", x.college(0), 4);
        check.is("fault()", x.fault(), 1);
        check.is("where()", x.where(), 0);
        // What stands behind the n bytes, or stood there once, is no part of a TOKEN that ends with them.
        for (String behind : new String[] {"x", "9", " ", ";"}) {
            for (String text : new String[] {TEXT, TEXT + ";gives m e p 0"}) {
                Check.feedAll(x, (text + behind.repeat(9)).getBytes());
                check.fine(x, "college ahead of " + behind, x.college(text.length()), 2);
                Check.feedAll(x, text.substring(0, text.length() - 3).getBytes());
                check.refused(x, "college of less", x.college(text.length() - 3), 4);
                Check.feedAll(x, text.getBytes());
                check.fine(x, "college again", x.college(text.length()), 2);
            }
        }
        Check.feedAll(x, "college days 3 limit 30".getBytes());
        check.refused(x, "college(22)", x.college(22), 4);
        check.is("limit 3, cut from 30: LACKS", x.fault(), 6);
        check.is("where()", x.where(), 22);
        Check.feedAll(x, "college days 3 limit 30".getBytes());
        check.refused(x, "college(10)", x.college(10), 4);
        check.is("da, cut from days", x.where(), 8);
        // As many bytes as there are, and none of those ahead of them.
        Check.feedAll(x, " ".repeat(40).getBytes());
        check.refused(x, "college(40) of forty", x.college(40), 4);
        check.is("where()", x.where(), 40);
        check.promise(3, ": how many things.");
        String things = "";
        for (int n = 1; n <= 4; n++) {
            things += ";thing a" + (char) ('a' + n) + " dead weighs " + n;
            check.college("college days 2 limit 0;person p plain room 1 wakes 1;giver m skill 1" + things, n);
        }
    }

    private void newCollege() {
        check.promise(3, "(nothing to undo, no MARKS)");
        SecondPaper x = Calls.paper();
        x.day();
        x.sew(0);
        x.mark();
        x.mark();
        x.soonest();
        x.fits();
        check.fine(x, "college of the same text", Check.tell(x, TEXT), 2);
        check.same("college", Check.stateOf(x), Check.stateOf(Check.told(TEXT)));
        check.refused(x, "undo()", x.undo(), 6);
        for (int mark = 0; mark < 3; mark++) {
            check.refused(x, "back(" + mark + ")", x.back(mark), 1);
        }
        check.fine(x, "mark()", x.mark(), 0);
        // A smaller one has nothing of the one ahead of it.
        check.fine(x, "college", Check.tell(x, "college days 2 limit 9;thing a dead weighs 1;person q guard room 3 wakes 2;giver k skill 7"), 1);
        check.same("college", Check.stateOf(x), "fault 0, sizes 2 9 1 1 0 1 0 0 0 0 0 0 0 0, things 0/1/-2, people 3/0, givers 0/0");
        check.fine(x, "rides(0, 0)", x.rides(0, 0), -2);
        check.fine(x, "takes(0, 0)", x.takes(0, 0), -2);
        check.fine(x, "soonest()", x.soonest(), -2);
        check.refused(x, "fits()", x.fits(), 6);
        check.refused(x, "could(0)", x.could(0), 1);
        check.refused(x, "planned(0)", x.planned(0), 1);
        check.fine(x, "limit(true)", x.limit(true), 100);
    }

    private void badNumbers() {
        check.promise(3, "NONE: 2 (THE TAPE stays);");
        for (int n : new int[] {-1, LOW, HIGH, 1001, TEXT.length() / 20 * 20 + 21}) {
            check.refuses(() -> {
                SecondPaper x = Calls.paper();
                Check.feedAll(x, TEXT.getBytes());
                return x;
            }, "college(" + n + ")", 2, x -> x.college(n));
        }
        SecondPaper x = new SecondPaper();
        Check.feedAll(x, TEXT.getBytes());
        int bytes = x.size(13);
        check.refused(x, "one more than there are", x.college(bytes + 1), 2);
        check.refused(x, "one less than none", x.college(-1), 2);
        check.fine(x, "THE TAPE is as it was", x.college(bytes), 2);
        check.refuses(SecondPaper::new, "college(-1)", 2, p -> p.college(-1));
    }

    private void faults() {
        check.promise(3, "4 (the COLLEGE stays).");
        String[] texts = {"", "!", "college days 9", TEXT + ";", TEXT + ";thing e", "thing", "college days 7 limit 3;giver a skill 60;giver b skill 2"
            + ";giver c skill 3;person z guard room 9 wakes 9;tram t crowd 1 worth 60;rides z t 6;takes a t 6"};
        for (String text : texts) {
            SecondPaper x = Calls.paper();
            x.day();
            x.sew(0);
            String before = Check.stateOf(x).replace("fault 0", "");
            check.refused(x, "college of \"" + text + "\"", Check.tell(x, text), 4);
            check.is("THE TAPE is empty", x.size(13), 0);
            check.same("college of \"" + text + "\"", Check.stateOf(x).replaceFirst("fault [1-6]", ""), before);
            check.fine(x, "rides(0, 0)", x.rides(0, 0), 0);
            check.fine(x, "takes(1, 0)", x.takes(1, 0), -2);
            check.fine(x, "planned(0)", x.planned(0), 0);
            check.fine(x, "limit(false)", x.limit(false), 7);
            check.fine(x, "undo()", x.undo());
            check.fine(x, "undo()", x.undo());
            check.is("day", x.size(10), 0);
            check.fine(x, "back(0)", x.back(0));
            check.fine(x, "thing(1, 2)", x.thing(1, 2), -2);
        }
    }

    // ---- fault, where

    private void fault() {
        check.promise(4, "The FAULT of the latest college() not refused by 2;");
        String[] texts = {"college day", TEXT + ";found q", TEXT + ";found e", "college days 8", TEXT + ";giver o skill 1;giver", "exam"};
        for (int number = 1; number <= 6; number++) {
            SecondPaper x = Calls.paper();
            Check.tell(x, texts[number - 1]);
            check.is("fault()", x.fault(), number);
            check.refused(x, "college(-1)", x.college(-1), 2);
            check.is("fault() behind one refused by 2", x.fault(), number);
            x.day();
            x.undo();
            x.back(0);
            x.feed(0, 0, 0, 0, 0);
            check.is("fault() behind other calls", x.fault(), number);
            check.refused(x, "college(1)", x.college(1), 4);
            check.is("fault() of the latest", x.fault(), 1);
        }
        check.promise(4, "0 without one.");
        SecondPaper x = new SecondPaper();
        check.is("fault() of a new object", x.fault(), 0);
        x.college(1);
        check.is("fault() behind one refused by 2", x.fault(), 0);
        x.college(0);
        check.is("fault()", x.fault(), 1);
        Check.tell(x, TEXT);
        check.is("fault() behind one without", x.fault(), 0);
        x.college(1);
        check.is("fault() behind one refused by 2", x.fault(), 0);
    }

    private void where() {
        check.promise(5, "Its place, if the latest call that may be refused was by 4;");
        for (int place : new int[] {0, 1, 19, 20, 998, 999}) {
            SecondPaper x = Check.told(" ".repeat(place) + "!");
            check.is("where()", x.where(), place);
            x.feed(-1, -1, -1, -1, -1);
            x.fault();
            x.size(14);
            x.trouble();
            check.ledThrows(x, 0);
            check.is("where() behind calls that tell no number", x.where(), place);
            check.is("where() again", x.where(), place);
        }
        check.promise(5, "NONE else.");
        check.is("where() of a new object", new SecondPaper().where(), SecondPaper.NONE);
        check.is("where() of a college", Check.told(TEXT).where(), SecondPaper.NONE);
        for (Map.Entry<String, Check.Call> call : Calls.all().entrySet()) {
            SecondPaper refused = Check.told("   !");
            call.getValue().of(refused);
            check.is("where() behind " + call.getKey() + ", refused", refused.where(), SecondPaper.NONE);
            SecondPaper fine = Calls.paper();
            fine.college(0);
            check.is("where()", fine.where(), 0);
            call.getValue().of(fine);
            check.is("where() behind " + call.getKey(), fine.where(), SecondPaper.NONE);
        }
        SecondPaper x = Check.told("   !");
        x.college(1);
        check.is("where() behind college(1), refused by 2", x.where(), SecondPaper.NONE);
    }
}
