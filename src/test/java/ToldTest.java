/** Promises 44 to 46: led, size, trouble. */
public final class ToldTest {
    private static final Check CHECK = new Check();
    private static final String TEXT = "college days 5 limit 100"
        + ";thing e egg weighs 5;thing l live weighs 10;thing d dead weighs 2"
        + ";person a plain room 2 wakes 30;person b plain room 1 wakes 20;tram x crowd 10 worth 1;tram y crowd 1 worth 1;tram z crowd 1 worth 1"
        + ";giver m skill 5;rides a x 0;rides b x 0;takes m x 0;takes m x 2"
        + ";gives m e a 0;gives m e a 0;gives m e a 0;gives m e a 0;gives m e a 0;found e a;found d b"
        + ";exam m e a x free;exam m e a x free;exam m e a x free;exam m e a x free;exam m e a x free;exam m e a x free;exam m e a x free";

    public static void main(String[] args) {
        led();
        size();
        trouble();
        CHECK.is("NONE", SecondPaper.NONE, -1);
        CHECK.end();
    }

    private static void led() {
        SecondPaper x = CHECK.college(TEXT, 3);
        for (int i = 0; i < 3; i++) {
            CHECK.is("led(" + i + ")", x.led(i), i);
        }
        CHECK.ledThrows(x, 3);
        CHECK.ledThrows(x, -1);
        CHECK.ledThrows(x, Integer.MIN_VALUE);
        CHECK.ledThrows(x, Integer.MAX_VALUE);
        x.give(0, 1, 0);
        CHECK.is("led(0)", x.led(0), 0);
        CHECK.is("led(1)", x.led(1), 2);
        CHECK.ledThrows(x, 2);
        x.give(0, 0, 0);
        x.give(0, 2, 1);
        CHECK.ledThrows(x, 0);
        x.thing(9, 9);
        CHECK.ledThrows(x, 0);
        CHECK.is("led tells no trouble", x.trouble(), 1);
        x.undo();
        CHECK.is("led(0)", x.led(0), 2);
    }

    private static void size() {
        SecondPaper x = CHECK.college(TEXT, 3);
        x.day();
        x.day();
        x.sew(0);
        x.undo();
        x.mark();
        Check.feedAll(x, new byte[40]);
        x.thing(9, 9);
        int[] due = {5, 100, 3, 2, 3, 1, 4, 5, 2, 7, 2, 2, 1, 40};
        for (int what = 0; what < due.length; what++) {
            CHECK.is("size(" + what + ")", x.size(what), due[what]);
        }
        CHECK.is("size(14)", x.size(14), SecondPaper.NONE);
        CHECK.is("size(-1)", x.size(-1), SecondPaper.NONE);
        CHECK.is("size(MIN)", x.size(Integer.MIN_VALUE), SecondPaper.NONE);
        CHECK.is("size(MAX)", x.size(Integer.MAX_VALUE), SecondPaper.NONE);
        CHECK.is("size tells no trouble", x.trouble(), 1);
    }

    private static void trouble() {
        SecondPaper x = CHECK.college(TEXT, 3);
        x.dare(101);
        CHECK.is("trouble()", x.trouble(), 2);
        CHECK.is("trouble() again", x.trouble(), 2);
        x.fault();
        x.where();
        x.size(99);
        x.feed(0, 0, 0, 0, 0);
        CHECK.is("trouble() behind calls that can't be refused", x.trouble(), 2);
        x.dare(1);
        CHECK.is("trouble()", x.trouble(), 0);
        x.undo();
        CHECK.is("trouble()", x.trouble(), 6);
        x.college(21);
        CHECK.is("trouble()", x.trouble(), 2);
        x.college(20);
        CHECK.is("trouble()", x.trouble(), 4);
        x.never();
        CHECK.is("trouble()", x.trouble(), 0);
        x.give(0, 0, 5);
        CHECK.is("trouble()", x.trouble(), 1);
        x.day();
        x.give(0, 0, 0);
        CHECK.is("trouble()", x.trouble(), 5);
        x.mark();
        x.mark();
        x.mark();
        x.mark();
        CHECK.is("trouble()", x.trouble(), 3);
    }
}
