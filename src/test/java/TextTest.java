/** Promises 2 to 5: feed, college, fault, where. */
public final class TextTest {
    private static final Check CHECK = new Check();
    private static final String HEAD = "college days 3 limit 30";
    private static final String BASE = HEAD + ";thing e egg weighs 5;person p plain room 1 wakes 1"
        + ";tram x crowd 1 worth 1;giver m skill 1";

    public static void main(String[] args) {
        feed();
        collegeOfTape();
        refusedLeavesAll();
        newCollegeForgets();
        tokens();
        form();
        namesNotTold();
        toldAgain();
        bounds();
        many();
        lacks();
        firstFromTheLeft();
        faultAndWhere();
        CHECK.end();
    }

    private static void feed() {
        SecondPaper x = new SecondPaper();
        for (int n = 1; n <= 50; n++) {
            CHECK.is("feed", x.feed(n, n, n, n, n), 20 * n);
        }
        x.soonest();
        CHECK.is("feed too much", x.feed(1, 1, 1, 1, 1), SecondPaper.NONE);
        CHECK.is("feed tells no trouble", x.trouble(), 1);
        CHECK.is("none comes", x.size(13), 1000);
        CHECK.refused(x, "college(1001)", x.college(1001), 2);
        CHECK.refused(x, "college(1000)", x.college(1000), 4);
        CHECK.is("byte 0 of the first number", x.where(), 0);

        // The highest byte of each number comes first, 255 is a byte like others, and later feeds go behind.
        SecondPaper y = new SecondPaper();
        y.feed(0x636F6C6C, 0x65676520, 0x64617973, 0x20202020, 0x20332020);
        y.feed(0x6C696D69, 0x74202020, 0x20202033, 0x30FF2020, 0x20202020);
        CHECK.refused(y, "college(40)", y.college(40), 4);
        CHECK.is("fault()", y.fault(), 1);
        CHECK.is("where()", y.where(), 33);
    }

    private static void collegeOfTape() {
        SecondPaper x = CHECK.college(BASE, 1);
        CHECK.is("size(13)", x.size(13), 0);
        Check.feedAll(x, (BASE + ";thing f dead weighs 0").getBytes());
        CHECK.refused(x, "college(-1)", x.college(-1), 2);
        CHECK.refused(x, "college(141)", x.college(141), 2);
        CHECK.is("THE TAPE stays", x.size(13), 140);
        CHECK.is("the COLLEGE stays", x.size(2), 1);
        CHECK.fine(x, "college of the first bytes", x.college(BASE.length()), 1);
        CHECK.is("THE TAPE is empty", x.size(13), 0);
        Check.feedAll(x, (BASE + ";thing f dead weighs 0").getBytes());
        CHECK.fine(x, "college of more", x.college(BASE.length() + 22), 2);
    }

    private static void refusedLeavesAll() {
        SecondPaper x = CHECK.college(BASE + ";rides p x 1;takes m x 1", 1);
        x.day();
        x.mark();
        x.give(0, 0, 0);
        x.sew(0);
        CHECK.refused(x, "college with a fault", Check.tell(x, "college days 3 limit 30;thing e live weighs 9"), 4);
        CHECK.is("THE TAPE is empty", x.size(13), 0);
        CHECK.is("days", x.size(0), 3);
        CHECK.is("people", x.size(3), 1);
        CHECK.is("day", x.size(10), 1);
        CHECK.is("ACTS", x.size(11), 3);
        CHECK.is("MARKS", x.size(12), 1);
        CHECK.fine(x, "sort", x.thing(0, 0), 1);
        CHECK.fine(x, "who has it", x.thing(0, 2), 0);
        CHECK.fine(x, "room", x.person(0, 1), 0);
        CHECK.fine(x, "score", x.giver(0, 1), 2);
        CHECK.fine(x, "back", x.back(0));
        CHECK.fine(x, "soonest", x.soonest(), 1);
    }

    private static void newCollegeForgets() {
        SecondPaper x = CHECK.college(BASE + ";rides p x 1;takes m x 1;found e p", 1);
        x.day();
        x.mark();
        x.give(0, 0, 0);
        x.sew(0);
        CHECK.fine(x, "soonest", x.soonest(), 1);
        CHECK.fine(x, "fits", x.fits(), 1);
        CHECK.fine(x, "college again", Check.tell(x, BASE + ";rides p x 2;takes m x 2;takes m x 0;rides p x 0;found e p"), 1);
        CHECK.is("day", x.size(10), 0);
        CHECK.is("ACTS", x.size(11), 0);
        CHECK.is("MARKS", x.size(12), 0);
        CHECK.fine(x, "who has it", x.thing(0, 2), -2);
        CHECK.fine(x, "room", x.person(0, 1), 1);
        CHECK.fine(x, "score", x.giver(0, 1), 0);
        CHECK.fine(x, "no ride of the old college", x.rides(0, 1), -2);
        CHECK.fine(x, "no tram of the old college", x.takes(0, 1), -2);
        CHECK.fine(x, "soonest", x.soonest(), 0);
        CHECK.fine(x, "fits", x.fits(), 2);
        CHECK.refused(x, "undo", x.undo(), 6);
        CHECK.refused(x, "back", x.back(0), 1);
    }

    private static void tokens() {
        CHECK.college("  " + BASE.replace(";", "  ;  ") + "   ", 1);
        // Blanks only part tokens: digits and letters part each other.
        CHECK.college("college days3limit030;thing e egg weighs05;person p plain room1wakes001;giver m skill1", 1);
        CHECK.college(BASE.replace(" e ", " abcdefgh "), 1);
        CHECK.fault(BASE.replace(" e ", " abcdefghi "), 1, 30);
        CHECK.fault("collegesx days 3", 1, 0);
        CHECK.fault("college days 0003", 1, 13);
        CHECK.fault("college days 3 limit 1000", 1, 21);
        CHECK.fault("college\tdays 3", 1, 7);
        CHECK.fault("College days 3", 1, 0);
        CHECK.fault("college days -3", 1, 13);
        CHECK.fault("college days 3,", 1, 14);
        CHECK.fault(HEAD + ";thing e egg weighs 5;person p plain room 1 wakes 1;giver m skill 1\u00e9", 1, HEAD.length() + 67);
        CHECK.fault(HEAD + ";thing a1", 1, 31);
        CHECK.fault(HEAD + ";thing \0", 1, 30);
    }

    private static void form() {
        CHECK.fault("", 1, 0);
        CHECK.fault("    ", 1, 4);
        CHECK.fault(";", 1, 0);
        CHECK.fault("3", 1, 0);
        CHECK.fault("foo", 1, 0);
        CHECK.fault("days 3", 1, 0);
        CHECK.fault("college", 1, 7);
        CHECK.fault("college  ", 1, 9);
        CHECK.fault("college limit 3", 1, 8);
        CHECK.fault("college days", 1, 12);
        CHECK.fault("college days three", 1, 13);
        CHECK.fault("college days 3 days", 1, 15);
        CHECK.fault("college days 3 limit;", 1, 20);
        CHECK.fault(HEAD + " thing e", 1, 24);
        CHECK.fault(HEAD + ";", 1, 24);
        CHECK.fault(HEAD + ";;", 1, 24);
        CHECK.fault(HEAD + ";e", 1, 24);
        CHECK.fault(BASE + ";", 1, BASE.length() + 1);
        CHECK.fault(BASE + " 1", 1, BASE.length() + 1);
        CHECK.fault(HEAD + ";thing", 1, 29);
        CHECK.fault(HEAD + ";thing 1", 1, 30);
        CHECK.fault(HEAD + ";thing e", 1, 31);
        CHECK.fault(HEAD + ";thing e plain", 1, 32);
        CHECK.fault(HEAD + ";thing e egg room", 1, 36);
        CHECK.fault(HEAD + ";thing e egg weighs x", 1, 43);
        CHECK.fault(HEAD + ";person p egg", 1, 33);
        CHECK.fault(HEAD + ";person p guard wakes", 1, 39);
        CHECK.fault(HEAD + ";person p guard room 1 room", 1, 46);
        CHECK.fault(HEAD + ";tram x worth", 1, 31);
        CHECK.fault(HEAD + ";tram x crowd 1 crowd", 1, 39);
        CHECK.fault(HEAD + ";giver m crowd", 1, 32);
        String[] words = {"college", "thing", "person", "tram", "giver", "rides", "takes", "gives", "found", "exam"};
        for (String word : words) {
            CHECK.fault(HEAD + ";giver " + word, 1, 30);
            CHECK.fault(BASE + ";rides " + word, 1, BASE.length() + 7);
        }
        // All other words may be names.
        CHECK.college(HEAD + ";thing days dead weighs 1;person plain plain room 1 wakes 1;tram crowd crowd 1 worth 1"
            + ";giver caught skill 1;rides plain crowd 0;takes caught crowd 0;gives caught days plain 0;found days plain"
            + ";exam caught days plain crowd caught;giver free skill 2", 1);
        int at = BASE.length() + 1;
        CHECK.fault(BASE + ";rides p x", 1, at + 9);
        CHECK.fault(BASE + ";rides p x y", 1, at + 10);
        CHECK.fault(BASE + ";rides p 0", 1, at + 8);
        CHECK.fault(BASE + ";takes 0", 1, at + 6);
        CHECK.fault(BASE + ";gives m e p p", 1, at + 12);
        CHECK.fault(BASE + ";found e", 1, at + 7);
        CHECK.fault(BASE + ";exam m e p x", 1, at + 12);
        CHECK.fault(BASE + ";exam m e p x given", 1, at + 13);
        CHECK.fault(BASE + ";exam m e p x free free", 1, at + 18);
    }

    private static void namesNotTold() {
        int at = BASE.length() + 1;
        CHECK.fault(BASE + ";rides q x 0", 2, at + 6);
        CHECK.fault(BASE + ";rides m x 0", 2, at + 6);
        CHECK.fault(BASE + ";rides p y 0", 2, at + 8);
        CHECK.fault(BASE + ";rides p e 0", 2, at + 8);
        CHECK.fault(BASE + ";takes p x 0", 2, at + 6);
        CHECK.fault(BASE + ";takes m m 0", 2, at + 8);
        CHECK.fault(BASE + ";gives e m p 0", 2, at + 6);
        CHECK.fault(BASE + ";gives m m p 0", 2, at + 8);
        CHECK.fault(BASE + ";gives m e x 0", 2, at + 10);
        CHECK.fault(BASE + ";found p e", 2, at + 6);
        CHECK.fault(BASE + ";found e e", 2, at + 8);
        CHECK.fault(BASE + ";exam x e p x free", 2, at + 5);
        CHECK.fault(BASE + ";exam m x p x free", 2, at + 7);
        CHECK.fault(BASE + ";exam m e x x free", 2, at + 9);
        CHECK.fault(BASE + ";exam m e p p free", 2, at + 11);
        CHECK.fault(BASE + ";rides pp x 0", 2, at + 6);
        CHECK.fault(HEAD + ";rides p x 0;person p plain room 1 wakes 1", 2, 30);
    }

    private static void toldAgain() {
        int at = BASE.length() + 1;
        CHECK.fault(BASE + ";thing e dead weighs 1", 3, at + 6);
        CHECK.fault(BASE + ";thing p dead weighs 1", 3, at + 6);
        CHECK.fault(BASE + ";person x plain room 1 wakes 1", 3, at + 7);
        CHECK.fault(BASE + ";tram m crowd 1 worth 1", 3, at + 5);
        CHECK.fault(BASE + ";giver e skill 1", 3, at + 6);
        CHECK.fault(BASE + ";college days 3 limit 30", 3, at);
        CHECK.fault(HEAD + ";college", 3, 24);
        CHECK.fault(BASE + ";tram y crowd 1 worth 1;rides p x 0;rides p y 0", 3, at + 45);
        CHECK.fault(BASE + ";tram y crowd 1 worth 1;takes m x 2;takes m y 2", 3, at + 45);
        CHECK.college(BASE + ";rides p x 0;rides p x 1;takes m x 0;takes m x 1", 1);
        CHECK.fault(BASE + ";person q plain room 1 wakes 1;found e p;found e q", 3, at + 46);
        CHECK.college(BASE + ";gives m e p 0;gives m e p 0;exam m e p x free;exam m e p x free", 1);
    }

    private static void bounds() {
        CHECK.fault("college days 1 limit 0", 4, 13);
        CHECK.fault("college days 8 limit 0", 4, 13);
        CHECK.fault("college days 2 limit 101", 4, 21);
        CHECK.fault(HEAD + ";thing e egg weighs 51", 4, 43);
        CHECK.fault(HEAD + ";person p plain room 10", 4, 44);
        CHECK.fault(HEAD + ";person p plain room 9 wakes 100", 4, 52);
        CHECK.fault(HEAD + ";tram x crowd 61", 4, 37);
        CHECK.fault(HEAD + ";tram x crowd 60 worth 0", 4, 46);
        CHECK.fault(HEAD + ";tram x crowd 60 worth 61", 4, 46);
        CHECK.fault(HEAD + ";giver m skill 61", 4, 38);
        int at = BASE.length() + 1;
        CHECK.fault(BASE + ";rides p x 3", 4, at + 10);
        CHECK.fault(BASE + ";takes m x 3", 4, at + 10);
        CHECK.fault(BASE + ";gives m e p 3", 4, at + 12);
        SecondPaper x = CHECK.college("college days 2 limit 0;thing e egg weighs 50;thing f dead weighs 0"
            + ";person p plain room 0 wakes 0;person q plain room 9 wakes 99;tram x crowd 60 worth 60;tram y crowd 0 worth 1"
            + ";giver m skill 0;giver n skill 60;rides p x 1;takes m x 0;gives n e q 1", 2);
        CHECK.fine(x, "thing(0, 1)", x.thing(0, 1), 50);
        CHECK.fine(x, "person(1, 1)", x.person(1, 1), 9);
        CHECK.fine(x, "person(1, 2)", x.person(1, 2), 99);
        CHECK.fine(x, "giver(1, 0)", x.giver(1, 0), 60);
        SecondPaper y = CHECK.college("college days 7 limit 100;thing e egg weighs 0;person p plain room 1 wakes 1"
            + ";tram x crowd 1 worth 1;giver m skill 1;rides p x 6", 1);
        CHECK.is("days", y.size(0), 7);
        CHECK.is("limit", y.size(1), 100);
    }

    private static void many() {
        String things = ";thing ta dead weighs 1;thing tb dead weighs 1;thing tc dead weighs 1";
        CHECK.college(BASE + things, 4);
        CHECK.fault(BASE + things + ";thing 1", 5, (BASE + things).length() + 1);
        String people = "";
        for (char c = 'a'; c < 'e'; c++) {
            people += ";person p" + c + " guard room 1 wakes 1";
        }
        CHECK.college(BASE + people, 1);
        CHECK.fault(BASE + people + ";person p", 5, (BASE + people).length() + 1);
        String trams = ";tram xa crowd 1 worth 1;tram xb crowd 1 worth 1;tram xc crowd 1 worth 1";
        CHECK.college(BASE + trams, 1);
        CHECK.fault(BASE + trams + ";tram", 5, (BASE + trams).length() + 1);
        String givers = ";giver ga skill 1;giver gb skill 1";
        CHECK.college(BASE + givers, 1);
        CHECK.fault(BASE + givers + ";giver gc skill 1", 5, (BASE + givers).length() + 1);
        String journeys = givers + people;
        String[] riders = {"p", "pa", "pb", "pc"};
        for (String p : riders) {
            journeys += ";rides " + p + " x 0;rides " + p + " x 1;rides " + p + " x 2";
        }
        journeys += ";takes m x 0;takes ga x 0;takes gb x 0;takes m x 1";
        SecondPaper x = CHECK.college(BASE + journeys, 1);
        CHECK.is("rides and takes", x.size(6), 16);
        CHECK.fault(BASE + journeys + ";rides p x 0", 5, (BASE + journeys).length() + 1);
        CHECK.fault(BASE + journeys + ";takes m x 2", 5, (BASE + journeys).length() + 1);
        String gifts = ";gives m e p 0;gives m e p 0;gives m e p 0";
        gifts = gifts + gifts + gifts + gifts;
        CHECK.college(BASE + gifts, 1);
        CHECK.fault(BASE + gifts + ";gives m e p 0", 5, (BASE + gifts).length() + 1);
        String exams = ";exam m e p x free;exam m e p x caught";
        exams = exams + exams + exams + exams;
        CHECK.college(BASE + exams, 1);
        CHECK.fault(BASE + exams + ";exam", 5, (BASE + exams).length() + 1);
        // Things found have no room of their own: each can be found once.
        String found = things + ";found e p;found ta p;found tb p;found tc p";
        CHECK.college(BASE + found, 4);
        CHECK.fault(BASE + found + ";found e p", 3, (BASE + found).length() + 7);
        CHECK.fault(BASE + found + ";found x p", 2, (BASE + found).length() + 7);
    }

    private static void lacks() {
        String[] words = {"thing", "person", "tram", "giver", "rides", "takes", "gives", "found", "exam"};
        for (String word : words) {
            CHECK.fault("  " + word + " a", 6, 2);
        }
        String t = ";thing e egg weighs 5";
        String p = ";person p plain room 1 wakes 1";
        String g = ";giver m skill 1";
        CHECK.fault(HEAD, 6, HEAD.length());
        CHECK.fault(HEAD + "  ", 6, HEAD.length() + 2);
        CHECK.fault(HEAD + p + g, 6, (HEAD + p + g).length());
        CHECK.fault(HEAD + t + g, 6, (HEAD + t + g).length());
        CHECK.fault(HEAD + t + p, 6, (HEAD + t + p).length());
        CHECK.college(HEAD + g + p + t, 1);
    }

    private static void firstFromTheLeft() {
        CHECK.fault("thing e rock ! 99", 6, 0);
        CHECK.fault("college days 9 limit !", 4, 13);
        CHECK.fault(HEAD + ";thing e egg weighs 99 !", 4, 43);
        CHECK.fault(HEAD + ";thing e egg weighs 9 !;thing e", 1, 45);
        CHECK.fault(BASE + ";rides q y 9", 2, BASE.length() + 7);
        CHECK.fault(BASE + ";found e p;found e nobody", 3, BASE.length() + 17);
    }

    private static void faultAndWhere() {
        SecondPaper x = new SecondPaper();
        Check.tell(x, "college days 9");
        CHECK.is("fault()", x.fault(), 4);
        CHECK.is("where()", x.where(), 13);
        x.size(0);
        x.feed(0, 0, 0, 0, 0);
        CHECK.ledThrows(x, 0);
        CHECK.is("where() behind calls that can't be refused", x.where(), 13);
        CHECK.refused(x, "college(21)", x.college(21), 2);
        CHECK.is("fault() stays", x.fault(), 4);
        CHECK.is("where() of another call", x.where(), SecondPaper.NONE);
        CHECK.refused(x, "college(20)", x.college(20), 4);
        CHECK.is("where()", x.where(), 0);
        x.undo();
        CHECK.is("where() of another call", x.where(), SecondPaper.NONE);
        CHECK.is("fault()", x.fault(), 1);
        CHECK.fine(x, "college", Check.tell(x, BASE), 1);
        CHECK.is("fault()", x.fault(), 0);
        CHECK.is("where()", x.where(), SecondPaper.NONE);
    }
}
