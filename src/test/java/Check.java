import java.nio.charset.StandardCharsets;
import java.util.Arrays;
import java.util.NoSuchElementException;

/** Counts answers that are not the ones that are due, and tells texts to a SecondPaper. */
final class Check {
    private int wrong = 0;
    private int asked = 0;

    void is(String call, long got, long due) {
        asked++;
        if (got != due) {
            wrong++;
            System.out.println(call + " answered " + got + ", due is " + due);
        }
    }

    void is(String call, boolean got, boolean due) {
        is(call, got ? 1 : 0, due ? 1 : 0);
    }

    /** A call that is refused: NONE, and its number. */
    void refused(SecondPaper x, String call, long got, int trouble) {
        is(call, got, SecondPaper.NONE);
        is(call + ": trouble()", x.trouble(), trouble);
    }

    void refused(SecondPaper x, String call, boolean got, int trouble) {
        is(call, got, false);
        is(call + ": trouble()", x.trouble(), trouble);
    }

    /** A call that is not refused: its answer, and no TROUBLE. */
    void fine(SecondPaper x, String call, long got, long due) {
        is(call, got, due);
        is(call + ": trouble()", x.trouble(), 0);
    }

    void fine(SecondPaper x, String call, boolean got) {
        is(call, got, true);
        is(call + ": trouble()", x.trouble(), 0);
    }

    void ledThrows(SecondPaper x, int i) {
        boolean thrown = false;
        try {
            x.led(i);
        } catch (NoSuchElementException e) {
            thrown = true;
        }
        is("led(" + i + ") throws", thrown, true);
    }

    /** A text with a fault: which, and where. */
    void fault(String text, int fault, int where) {
        SecondPaper x = new SecondPaper();
        String call = "college of \"" + text + "\"";
        refused(x, call, tell(x, text), 4);
        is(call + ": fault()", x.fault(), fault);
        is(call + ": where()", x.where(), where);
        is(call + ": size(2)", x.size(2), 0);
    }

    /** A text without one: how many things. */
    SecondPaper college(String text, int things) {
        SecondPaper x = new SecondPaper();
        String call = "college of \"" + text + "\"";
        fine(x, call, tell(x, text), things);
        is(call + ": fault()", x.fault(), 0);
        is(call + ": where()", x.where(), SecondPaper.NONE);
        return x;
    }

    static int tell(SecondPaper x, String text) {
        feedAll(x, text.getBytes(StandardCharsets.ISO_8859_1));
        return x.college(text.length());
    }

    static void feedAll(SecondPaper x, byte[] bytes) {
        for (int at = 0; at < bytes.length; at += 20) {
            byte[] part = new byte[20];
            Arrays.fill(part, (byte) ' ');
            System.arraycopy(bytes, at, part, 0, Math.min(20, bytes.length - at));
            x.feed(number(part, 0), number(part, 4), number(part, 8), number(part, 12), number(part, 16));
        }
    }

    private static int number(byte[] part, int at) {
        return (part[at] & 255) << 24 | (part[at + 1] & 255) << 16 | (part[at + 2] & 255) << 8 | part[at + 3] & 255;
    }

    void end() {
        System.out.println(asked + " answers, " + wrong + " not as due");
        if (wrong != 0) {
            System.exit(1);
        }
    }
}
