import java.nio.charset.StandardCharsets;
import java.util.Arrays;
import java.util.NoSuchElementException;
import java.util.function.Supplier;

/** Counts answers that are not the ones that are due, and tells texts to a SecondPaper. */
final class Check {
    private final Sentences sentences = new Sentences();
    private String heading = "";
    private int wrong = 0;
    private int asked = 0;

    /** What is checked from here on is asked for by this sentence of a promise. */
    void promise(int number, String sentence) {
        sayWhere("promise " + number, sentence);
    }

    /** What is checked from here on is asked for by this sentence of a term. */
    void term(String number, String sentence) {
        sayWhere("term " + number, sentence);
    }

    private void sayWhere(String where, String sentence) {
        sentences.quote(where, sentence);
        heading = where + ", '" + sentence + "': ";
    }

    /** Each sentence that was named stands in the document, and each of the document's was named. */
    void holdAgainst(String document) {
        heading = "";
        for (String complaint : sentences.complaints(document)) {
            asked++;
            wrong++;
            System.out.println(complaint);
        }
    }

    void is(String call, long got, long due) {
        asked++;
        if (got != due) {
            wrong++;
            System.out.println(heading + call + " answered " + got + ", due is " + due);
        }
    }

    void same(String call, String got, String due) {
        asked++;
        if (!got.equals(due)) {
            wrong++;
            System.out.println(heading + call + " left " + got + ", due is " + due);
        }
    }

    void is(String call, boolean got, boolean due) {
        is(call, got ? 1 : 0, due ? 1 : 0);
    }

    /** A call that is refused: NONE, and its number. */
    void refused(SecondPaper x, String call, long got, int trouble) {
        is(call, got, SecondPaper.NONE);
        is(call + ": trouble()", x.trouble(), trouble);
    }

    void refused(SecondPaper x, String call, boolean got, int trouble) {
        is(call, got, false);
        is(call + ": trouble()", x.trouble(), trouble);
    }

    /** A call that is not refused: its answer, and no TROUBLE. */
    void fine(SecondPaper x, String call, long got, long due) {
        is(call, got, due);
        is(call + ": trouble()", x.trouble(), 0);
    }

    void fine(SecondPaper x, String call, boolean got) {
        is(call, got, true);
        is(call + ": trouble()", x.trouble(), 0);
    }

    /** A call of the face, for lists of calls; its answer is a number or a boolean. */
    interface Call {
        Object of(SecondPaper x);
    }

    /** A call that is refused, of a paper made for it: NONE or false, its number, no place, and all stays as it was. */
    void refuses(Supplier<SecondPaper> papers, String name, int trouble, Call call) {
        SecondPaper x = papers.get();
        String before = stateOf(x);
        is(name, numberOf(call.of(x)), name.matches("(sew|undo|back)\\(.*") ? 0 : SecondPaper.NONE);
        is(name + ": trouble()", x.trouble(), trouble);
        is(name + ": where()", x.where(), SecondPaper.NONE);
        same(name, stateOf(x), before);
    }

    /** A call that only asks, of a paper made for it: its answer, no TROUBLE, and all stays as it was. */
    void answers(Supplier<SecondPaper> papers, String name, long due, Call call) {
        SecondPaper x = papers.get();
        String before = stateOf(x);
        is(name, numberOf(call.of(x)), due);
        is(name + ": trouble()", x.trouble(), 0);
        same(name, stateOf(x), before);
    }

    static long numberOf(Object answer) {
        return answer instanceof Boolean yes ? (yes ? 1 : 0) : ((Number) answer).longValue();
    }

    /** All that acts and texts change, as far as it can be asked for. */
    static String stateOf(SecondPaper x) {
        StringBuilder state = new StringBuilder("fault " + x.fault() + ", sizes");
        for (int what = 0; what <= 13; what++) {
            state.append(' ').append(x.size(what));
        }
        state.append(", things");
        for (int t = 0; t < x.size(2); t++) {
            state.append(' ').append(x.thing(t, 0)).append('/').append(x.thing(t, 1)).append('/').append(x.thing(t, 2));
        }
        state.append(", people");
        for (int p = 0; p < x.size(3); p++) {
            state.append(' ').append(x.person(p, 1)).append('/').append(x.person(p, 3));
        }
        state.append(", givers");
        for (int g = 0; g < x.size(5); g++) {
            state.append(' ').append(x.giver(g, 1)).append('/').append(x.giver(g, 2));
        }
        return state.toString();
    }

    void ledThrows(SecondPaper x, int i) {
        boolean thrown = false;
        try {
            x.led(i);
        } catch (NoSuchElementException e) {
            thrown = true;
        }
        is("led(" + i + ") throws", thrown, true);
    }

    /** A text with a fault: which, and where. */
    void fault(String text, int fault, int where) {
        SecondPaper x = new SecondPaper();
        String call = "college of \"" + text + "\"";
        refused(x, call, tell(x, text), 4);
        is(call + ": fault()", x.fault(), fault);
        is(call + ": where()", x.where(), where);
        is(call + ": size(2)", x.size(2), 0);
    }

    /** A text without one: how many things. */
    SecondPaper college(String text, int things) {
        SecondPaper x = new SecondPaper();
        String call = "college of \"" + text + "\"";
        fine(x, call, tell(x, text), things);
        is(call + ": fault()", x.fault(), 0);
        is(call + ": where()", x.where(), SecondPaper.NONE);
        return x;
    }

    /** A paper that was told a text, for what isn't asked of the text itself. */
    static SecondPaper told(String text) {
        SecondPaper x = new SecondPaper();
        tell(x, text);
        return x;
    }

    static int tell(SecondPaper x, String text) {
        feedAll(x, text.getBytes(StandardCharsets.ISO_8859_1));
        return x.college(text.length());
    }

    static void feedAll(SecondPaper x, byte[] bytes) {
        for (int at = 0; at < bytes.length; at += 20) {
            byte[] part = new byte[20];
            Arrays.fill(part, (byte) ' ');
            System.arraycopy(bytes, at, part, 0, Math.min(20, bytes.length - at));
            x.feed(number(part, 0), number(part, 4), number(part, 8), number(part, 12), number(part, 16));
        }
    }

    private static int number(byte[] part, int at) {
        return (part[at] & 255) << 24 | (part[at + 1] & 255) << 16 | (part[at + 2] & 255) << 8 | part[at + 3] & 255;
    }

    void end() {
        System.out.println(asked + " answers, " + wrong + " not as due");
        if (wrong != 0) {
            System.exit(1);
        }
    }
}
