import java.util.ArrayList;
import java.util.List;
import java.util.function.ToIntFunction;
import java.util.regex.Matcher;
import java.util.regex.Pattern;

/** The edges of term I: the text of a college, its bounds, what there is room for, and the faults with their places. */
final class TextEdges {
    private static final String HEAD = "college days 3 limit 30";
    private static final String THING = ";thing e egg weighs 5";
    private static final String PERSON = ";person p plain room 1 wakes 1";
    private static final String TRAM = ";tram x crowd 1 worth 1";
    private static final String GIVER = ";giver m skill 1";
    private static final String BASE = HEAD + THING + PERSON + TRAM + GIVER;
    private static final int AT = BASE.length() + 1;
    /** A line of each sort. */
    private static final String FULL = BASE + ";rides p x 0;takes m x 0;gives m e p 0;found e p;exam m e p x free";
    private static final String[] LINE_WORDS = {"college", "thing", "person", "tram", "giver", "rides", "takes", "gives", "found", "exam"};

    private final Check check;

    TextEdges(Check check) {
        this.check = check;
    }

    void run() {
        tape();
        blanks();
        words();
        wholes();
        semicolons();
        lines();
        firstLine();
        things();
        people();
        tramsAndGivers();
        journeys();
        gifts();
        exams();
        names();
        firstFault();
        form();
        notTold();
        again();
        outOfBounds();
        many();
        lacks();
    }

    // ---- helpers

    /** A number from least to most stands between two texts; one less and one more than these are out of bounds, at the number. */
    private void bounds(String before, String behind, int least, int most, ToIntFunction<SecondPaper> told) {
        for (int number : new int[] {least, least + 1, most - 1, most}) {
            SecondPaper x = check.college(before + number + behind, 1);
            check.is(before + number + " is told", told.applyAsInt(x), number);
        }
        for (int number : new int[] {least - 1, most + 1, 999}) {
            if (number >= 0) {
                check.fault(before + number + behind, 4, before.length());
            }
        }
    }

    /** So many lines there is room for; one more is a fault at its first word, whatever stands behind that. */
    private void room(String text, List<String> lines, String oneMore, int what) {
        StringBuilder all = new StringBuilder(text);
        for (int i = 0; i < lines.size(); i++) {
            SecondPaper x = new SecondPaper();
            Check.tell(x, all.toString());
            check.is("size(" + what + ") of \"" + all + "\"", x.size(what), x.fault() == 0 ? i : 0);
            all.append(';').append(lines.get(i));
        }
        SecondPaper x = new SecondPaper();
        check.is("college of \"" + all + "\"", Check.tell(x, all.toString()) >= 1, true);
        check.is("size(" + what + ") of \"" + all + "\"", x.size(what), lines.size());
        check.fault(all + " ; " + oneMore, 5, all.length() + 3);
        check.fault(all + ";" + oneMore.substring(0, oneMore.indexOf(' ')), 5, all.length() + 1);
        check.fault(all + ";" + oneMore.substring(0, oneMore.indexOf(' ')) + " !", 5, all.length() + 1);
    }

    private static List<String> named(int count, String before, String behind) {
        List<String> lines = new ArrayList<>();
        for (int i = 0; i < count; i++) {
            lines.add(before + " " + before.substring(0, 2) + (char) ('a' + i) + " " + behind);
        }
        return lines;
    }

    private static List<String> repeated(int count, String line) {
        List<String> lines = new ArrayList<>();
        for (int i = 0; i < count; i++) {
            lines.add(line);
        }
        return lines;
    }

    private static String joined(List<String> lines) {
        StringBuilder all = new StringBuilder();
        for (String line : lines) {
            all.append(';').append(line);
        }
        return all.toString();
    }

    // ---- tokens

    private void tape() {
        check.term("I", "THE TEXT of a COLLEGE");
        SecondPaper x = check.college(FULL, 1);
        for (int what = 2; what <= 9; what++) {
            check.is("size(" + what + ")", x.size(what), what == 6 ? 2 : 1);
        }
        check.term("I", "THE TAPE has 1,000 bytes");
        String longest = HEAD + " ".repeat(1000 - BASE.length()) + BASE.substring(HEAD.length());
        check.college(longest, 1);
        check.is("the last of 1,000 bytes", Check.told(longest.substring(0, 999) + "7").giver(0, 0), 7);
        check.fault(longest.substring(0, 999) + "!", 1, 999);
        check.fault(" ".repeat(1000), 1, 1000);
        check.fault(HEAD + " ".repeat(1000 - HEAD.length()), 6, 1000);
    }

    private void blanks() {
        check.term("I", "blanks, 32, part TOKENS and mean nothing else");
        check.college("   " + FULL.replace(" ", "   ").replace(";", "   ;   ") + "   ", 1);
        check.college("college days3limit30;thing e egg weighs5;person p plain room1wakes1;giver m skill1", 1);
        check.fault("coll ege days 3", 1, 0);
        check.fault("college days 3 limit 3 0", 1, 23);
        check.fault("collegedays 3", 1, 0);
        for (int sign : new int[] {0, 9, 10, 13, 31, 33, 127, 128, 160, 255}) {
            check.fault("college" + (char) sign + "days 3", 1, 7);
            check.fault((char) sign + FULL, 1, 0);
            check.fault(FULL + (char) sign, 1, FULL.length());
        }
    }

    private void words() {
        check.term("I", "TOKENS: WORDS of 1 to 8 small letters that stand together");
        check.college(BASE.replace(" e ", " a ").replace(" p ", " z "), 1);
        check.college(BASE.replace(" e ", " abcdefgh ").replace(" p ", " zzzzzzzz "), 1);
        check.fault(BASE.replace(" e ", " abcdefghi "), 1, HEAD.length() + 7);
        check.fault(BASE.replace(" e ", " " + "z".repeat(200) + " "), 1, HEAD.length() + 7);
        check.fault("collegess", 1, 0);
        // The signs next to a and z, and great letters.
        for (char sign : new char[] {'`', '{', 'A', 'Z', '@', '[', '_'}) {
            check.fault(HEAD + ";thing " + sign, 1, HEAD.length() + 7);
            check.fault(HEAD + ";thing a" + sign, 1, HEAD.length() + 8);
        }
        // All letters of a word count, and their order.
        check.college(BASE + ";thing abcdefgh egg weighs 1;thing abcdefgg egg weighs 1;thing hgfedcba egg weighs 1", 4);
        check.college(BASE + ";thing ee egg weighs 1;thing eee egg weighs 1;thing a egg weighs 1", 4);
        check.fault(BASE + ";found ee", 2, AT + 6);
    }

    private void wholes() {
        check.term("I", "WHOLES of 1 to 3 digits that do");
        check.is("three digits", Check.told(BASE.replace("limit 30", "limit 100")).size(1), 100);
        check.is("0 ahead", Check.told(BASE.replace("limit 30", "limit 030")).size(1), 30);
        check.is("only 0", Check.told(BASE.replace("limit 30", "limit 000")).size(1), 0);
        check.is("9 and 0", Check.told(BASE.replace("limit 30", "limit 90")).size(1), 90);
        check.fault("college days 0003", 1, 13);
        check.fault("college days 3 limit 1000", 1, 21);
        check.fault("college days 3 limit " + "0".repeat(300), 1, 21);
        check.fault("college days " + "9".repeat(40), 1, 13);
        // 4294967299 is 3 beyond what an int has.
        check.fault("college days 4294967299", 1, 13);
        for (char sign : new char[] {'/', ':', '-', '+', '.'}) {
            check.fault("college days " + sign + "3", 1, 13);
            check.fault("college days 3" + sign, 1, 14);
        }
    }

    private void semicolons() {
        check.term("I", "single ones of ;");
        check.fault(HEAD + ";;" + BASE.substring(HEAD.length() + 1), 1, HEAD.length() + 1);
        check.fault(HEAD + " ; ; " + BASE.substring(HEAD.length() + 1), 1, HEAD.length() + 3);
        check.fault("college;days 3", 1, 7);
        check.fault(HEAD + ":" + BASE.substring(HEAD.length() + 1), 1, HEAD.length());
    }

    // ---- lines

    private void lines() {
        check.term("I", "LINE {; LINE}");
        check.fault("", 1, 0);
        check.fault(";" + BASE, 1, 0);
        check.fault(BASE + ";", 1, BASE.length() + 1);
        check.fault(BASE + " ;  ", 1, BASE.length() + 4);
        check.fault(HEAD + " " + BASE.substring(HEAD.length() + 1), 1, HEAD.length() + 1);
        check.term("I", "LINE, one of:");
        check.fault("days 3", 1, 0);
        check.fault(BASE + ";e", 1, AT);
        check.fault(BASE + ";room 1", 1, AT);
        check.fault(BASE + ";1", 1, AT);
    }

    private void firstLine() {
        check.term("I", "college days WHOLE limit WHOLE (2 .. 7; 0 .. 100), ahead of all others");
        String rest = BASE.substring(HEAD.length());
        bounds("college days ", " limit 30" + rest, 2, 7, x -> x.size(0));
        bounds("college days 3 limit ", rest, 0, 100, x -> x.size(1));
        check.fault("college limit 30 days 3" + rest, 1, 8);
        for (String line : FULL.substring(HEAD.length() + 1).split(";")) {
            check.fault(line + ";" + FULL, 6, 0);
        }
    }

    private void things() {
        check.term("I", "thing NAME SORT weighs WHOLE (SORT: dead, egg, or live; 0 .. 50; up to 4)");
        bounds(HEAD + ";thing e egg weighs ", PERSON + GIVER, 0, 50, x -> x.thing(0, 1));
        String[] sorts = {"dead", "egg", "live"};
        for (int sort = 0; sort < 3; sort++) {
            check.is(sorts[sort], Check.told(BASE.replace(" egg ", " " + sorts[sort] + " ")).thing(0, 0), sort);
        }
        for (String other : new String[] {"plain", "eg", "eggs", "alive", "thing", "weighs", "5"}) {
            check.fault(HEAD + ";thing e " + other, 1, HEAD.length() + 9);
        }
        room(HEAD + PERSON + GIVER, named(4, "thing", "dead weighs 1"), "thing z dead weighs 1", 2);
    }

    private void people() {
        check.term("I", "person NAME KIND room WHOLE wakes WHOLE (KIND: plain, bishop, tailor, or guard; 0 .. 9; 0 .. 99; up to 5)");
        bounds(HEAD + THING + GIVER + ";person p plain room ", " wakes 1", 0, 9, x -> x.person(0, 1));
        bounds(HEAD + THING + GIVER + ";person p plain room 1 wakes ", "", 0, 99, x -> x.person(0, 2));
        String[] kinds = {"plain", "bishop", "tailor", "guard"};
        for (int kind = 0; kind < 4; kind++) {
            check.is(kinds[kind], Check.told(BASE.replace(" plain ", " " + kinds[kind] + " ")).person(0, 0), kind);
        }
        for (String other : new String[] {"dead", "plai", "guards", "person", "room", "1"}) {
            check.fault(HEAD + ";person p " + other, 1, HEAD.length() + 10);
        }
        room(HEAD + THING + GIVER, named(5, "person", "guard room 1 wakes 1"), "person z guard room 1 wakes 1", 3);
    }

    private void tramsAndGivers() {
        check.term("I", "tram NAME crowd WHOLE worth WHOLE (0 .. 60; 1 .. 60; up to 4)");
        String awake = HEAD + ";thing e dead weighs 0;person p plain room 1 wakes 99;giver m skill 0";
        bounds(awake + ";tram x crowd ", " worth 1", 0, 60, x -> 99 - x.near(0, 0, 0, 0));
        // Beside a tram worth 60, one worth w is taken with a chance of 60 in 60 + w.
        bounds(awake + ";tram x crowd 0 worth ", ";tram y crowd 0 worth 60", 1, 60,
            x -> (int) (60 * x.lot(0, true) / x.lot(0, false)) - 60);
        room(HEAD + THING + PERSON + GIVER, named(4, "tram", "crowd 1 worth 1"), "tram z crowd 1 worth 1", 4);
        check.term("I", "or giver NAME skill WHOLE (0 .. 60; up to 3)");
        bounds(HEAD + THING + PERSON + ";giver m skill ", "", 0, 60, x -> x.giver(0, 0));
        room(HEAD + THING + PERSON, named(3, "giver", "skill 1"), "giver z skill 1", 5);
    }

    private void journeys() {
        check.term("I", "rides PERSON TRAM WHOLE, or takes GIVER TRAM WHOLE (a day; one a day for each; up to 16 of both)");
        for (int days = 2; days <= 7; days++) {
            String text = BASE.replace("days 3", "days " + days);
            for (String line : new String[] {";rides p x ", ";takes m x "}) {
                check.college(text + line + 0 + line + (days - 1), 1);
                check.fault(text + line + days, 4, text.length() + 11);
                check.fault(text + line + "999", 4, text.length() + 11);
            }
        }
        String more = BASE + ";person q plain room 1 wakes 1;giver n skill 1;tram y crowd 1 worth 1";
        check.college(more + ";rides p x 1;rides q x 1;takes m x 1;takes n x 1;rides p x 2;takes m x 2", 1);
        for (String line : new String[] {";rides p ", ";takes n "}) {
            check.fault(more + line + "x 1" + line + "y 1", 3, more.length() + 12 + 11);
            check.fault(more + line + "x 0" + line + "x 2" + line + "x 0", 3, more.length() + 24 + 11);
        }
        String many = "college days 7 limit 1" + THING + PERSON + TRAM + GIVER
            + ";person q plain room 1 wakes 1;person r plain room 1 wakes 1;giver n skill 1;giver k skill 1";
        List<String> rides = days("rides p x ", "rides q x ", "rides r x ");
        List<String> takes = days("takes m x ", "takes n x ", "takes k x ");
        List<String> both = new ArrayList<>(rides.subList(0, 7));
        both.addAll(takes.subList(0, 9));
        room(many, rides.subList(0, 16), "takes m x 0", 6);
        room(many, takes.subList(0, 16), "rides p x 0", 6);
        room(many, both, "rides p x 0", 6);
        room(many, both, "takes k x 6", 6);
    }

    private static List<String> days(String... whos) {
        List<String> lines = new ArrayList<>();
        for (String who : whos) {
            for (int day = 0; day < 7; day++) {
                lines.add(who + day);
            }
        }
        return lines;
    }

    private void gifts() {
        check.term("I", "gives GIVER THING PERSON WHOLE (a day; up to 12: THE PLAN, as told)");
        for (int days = 2; days <= 7; days++) {
            String text = BASE.replace("days 3", "days " + days);
            check.college(text + ";gives m e p 0;gives m e p " + (days - 1), 1);
            check.fault(text + ";gives m e p " + days, 4, text.length() + 13);
        }
        room(BASE, repeated(12, "gives m e p 2"), "gives m e p 2", 7);
        check.term("I", "or found THING PERSON (once for each THING)");
        String things = ";thing a egg weighs 0;thing b egg weighs 0;thing c egg weighs 0";
        String found = ";found c p;found e p;found a p;found b p";
        SecondPaper x = check.college(BASE + things + found, 4);
        check.is("size(8)", x.size(8), 4);
        check.is("size(8) of none", Check.told(BASE + things).size(8), 0);
        for (String thing : new String[] {"c", "e", "a", "b"}) {
            check.fault(BASE + things + found + ";found " + thing + " p", 3, (BASE + things + found).length() + 7);
        }
        check.fault(BASE + ";person q plain room 1 wakes 1;found e p;found e q", 3, AT + 30 + 10 + 6);
    }

    private void exams() {
        check.term("I", "exam GIVER THING PERSON TRAM ANSWER (caught, or free; up to 8)");
        check.is("caught", Check.told(BASE + ";exam m e p x caught").limit(true), 6);
        check.is("free", Check.told(BASE + ";exam m e p x free").limit(false), 7);
        check.fault(BASE + ";exam m e p x frees", 1, AT + 13);
        check.fault(BASE + ";exam m e p x catch", 1, AT + 13);
        check.fault(BASE + ";exam m e p x 1", 1, AT + 13);
        room(BASE, repeated(8, "exam m e p x free"), "exam m e p x free", 9);
    }

    private void names() {
        check.term("I", "NAMES are WORDS but college, thing, person, tram, giver, rides, takes, gives, found, exam");
        for (String word : LINE_WORDS) {
            for (String line : new String[] {"thing ", "person ", "tram ", "giver ", "rides ", "rides p ", "takes ", "takes m ", "gives ",
                "gives m ", "gives m e ", "found ", "found e ", "exam ", "exam m ", "exam m e ", "exam m e p "}) {
                check.fault(BASE + ";" + line + word, 1, AT + line.length());
            }
        }
        for (String word : new String[] {"days", "limit", "dead", "egg", "live", "weighs", "plain", "bishop", "tailor", "guard", "room",
            "wakes", "crowd", "worth", "skill", "caught", "free", "things", "ride", "colleg"}) {
            check.college(HEAD + THING + PERSON.replace(" p ", " " + word + " ") + GIVER + ";found e " + word, 1);
        }
        check.term("I", "each told once, ahead of its use.");
        check.fault(HEAD + ";rides p x 0" + BASE.substring(HEAD.length()), 2, HEAD.length() + 7);
        check.fault(HEAD + PERSON + ";rides p x 0" + TRAM + THING + GIVER, 2, HEAD.length() + PERSON.length() + 9);
        check.fault(BASE + ";found f p;thing f egg weighs 0", 2, AT + 6);
    }

    // ---- faults

    private void firstFault() {
        check.term("I", "FAULTS, the first that is met from the left, of one place the least number:");
        check.fault("thing 1 ! college", 6, 0);
        check.fault("college days 9 limit !", 4, 13);
        check.fault(BASE + ";rides q 9", 2, AT + 6);
        check.fault(BASE + ";thing e !", 3, AT + 6);
        check.fault(BASE + ";college !", 3, AT);
        check.fault(BASE + ";found e p;found e !", 3, AT + 16);
        check.fault(BASE + ";gives m e p 3 !", 4, AT + 12);
        check.fault(BASE + ";giver a skill 1;giver b skill 1;giver m !", 5, AT + 32);
        check.fault(BASE + "!;thing e", 1, AT - 1);
        // FORM ahead of a name that isn't told, of one told again, of bounds, of what lacks.
        check.fault(BASE + ";rides thing", 1, AT + 6);
        check.fault(BASE + ";rides abcdefghi", 1, AT + 6);
        check.fault(BASE + ";thing giver", 1, AT + 6);
        check.fault(BASE + ";rides p x 1000", 1, AT + 10);
        check.fault("", 1, 0);
        check.fault(HEAD + ";", 1, HEAD.length() + 1);
    }

    private void form() {
        check.term("I", "1 FORM: the first byte that begins no TOKEN, or TOKEN with which no COLLEGE goes on (the end: its place).");
        Matcher token = Pattern.compile("[a-z]+|[0-9]+|;").matcher(FULL);
        while (token.find()) {
            String before = FULL.substring(0, token.start());
            String behind = FULL.substring(token.end());
            String own = token.group();
            check.fault(before + "!" + behind, 1, before.length());
            check.fault(before + "A" + behind, 1, before.length());
            // A token of each other sort.
            if (!own.equals(";")) {
                check.fault(before + ";" + behind, 1, before.length());
            }
            if (!Character.isDigit(own.charAt(0))) {
                check.fault(before + " 3 " + behind, 1, before.length() + 1);
            }
            if (!Character.isLetter(own.charAt(0))) {
                check.fault(before + " y " + behind, 1, before.length() + 1);
            }
            // The end of the text instead of it, with blanks too.
            if (own.equals(";") && before.length() >= BASE.length()) {
                check.college(before, 1);
            } else {
                check.fault(before, own.equals(";") ? 6 : 1, before.length());
                check.fault(before + "   ", own.equals(";") ? 6 : 1, before.length() + 3);
            }
        }
        // A token more behind each line.
        for (int end = FULL.indexOf(';'); end >= 0; end = FULL.indexOf(';', end + 1)) {
            check.fault(FULL.substring(0, end) + " 1" + FULL.substring(end), 1, end + 1);
            check.fault(FULL.substring(0, end) + " free" + FULL.substring(end), 1, end + 1);
        }
        check.fault(FULL + " 1", 1, FULL.length() + 1);
    }

    private void notTold() {
        check.term("I", "2 a NAME that isn't told, or is of another sort than must stand there; at it.");
        String[] lines = {"rides P", "rides p X", "takes G", "takes m X", "gives G", "gives m T", "gives m e P", "found T", "found e P",
            "exam G", "exam m T", "exam m e P", "exam m e p X"};
        for (String line : lines) {
            int last = line.length() - 1;
            char own = "epxm".charAt("TPXG".indexOf(line.charAt(last)));
            for (char name : new char[] {'e', 'p', 'x', 'm', 'q'}) {
                String text = BASE + ";" + line.substring(0, last) + name;
                if (name == own) {
                    check.fault(text + "!", 1, text.length());
                } else {
                    check.fault(text, 2, text.length() - 1);
                    check.fault(text + " !", 2, text.length() - 1);
                }
            }
        }
    }

    private void again() {
        check.term("I", "3 a NAME told again; at it;");
        for (String line : new String[] {"thing ", "person ", "tram ", "giver "}) {
            for (String name : new String[] {"e", "p", "x", "m"}) {
                check.fault(BASE + ";" + line + name, 3, AT + line.length());
            }
        }
        check.term("I", "a day on which one rides, takes a TRAM already: at its WHOLE;");
        String two = BASE + ";tram y crowd 1 worth 1";
        for (String who : new String[] {";rides p ", ";takes m "}) {
            for (int day = 0; day < 3; day++) {
                check.fault(two + who + "x " + day + who + "x " + day, 3, two.length() + 23);
                check.fault(two + who + "y " + day + who + "x " + day + " !", 3, two.length() + 23);
                check.college(two + who + "y " + day + who + "x " + (day + 1) % 3, 1);
            }
        }
        check.term("I", "a THING that is found already; at it;");
        check.fault(BASE + ";found e p;found e p", 3, AT + 16);
        check.fault(BASE + ";thing a egg weighs 1;found a p;found e p;found a p", 3, AT + 21 + 10 + 10 + 6);
        check.term("I", "a second college: at that WORD.");
        check.fault(HEAD + ";" + HEAD, 3, HEAD.length() + 1);
        check.fault(BASE + " ; college", 3, BASE.length() + 3);
        check.fault(FULL + ";college days 9", 3, FULL.length() + 1);
    }

    private void outOfBounds() {
        check.term("I", "4 a WHOLE out of bounds; at it.");
        check.fault("college days 1", 4, 13);
        check.fault("college days 008", 4, 13);
        check.fault("college days 3 limit 101 !", 4, 21);
        check.fault(HEAD + ";tram x crowd 60 worth 000", 4, HEAD.length() + 23);
        check.fault(BASE + ";rides p x  3", 4, AT + 11);
    }

    private void many() {
        check.term("I", "5 MANY: a LINE more of its sort than there is room for, at its first WORD.");
        // As many of all sorts at once as there is room for.
        StringBuilder all = new StringBuilder("college days 7 limit 0");
        for (char name : "abcd".toCharArray()) {
            all.append(";thing ").append(name).append(" dead weighs 0;tram ").append((char) (name + 4)).append(" crowd 0 worth 1");
        }
        for (char name : "ijklm".toCharArray()) {
            all.append(";person ").append(name).append(" plain room 0 wakes 0");
        }
        all.append(";giver x skill 0;giver y skill 0;giver z skill 0").append(joined(days("rides i e ", "takes x e ")));
        all.append(";rides j e 0;takes y e 0").append(joined(repeated(12, "gives x a i 0"))).append(joined(repeated(8, "exam x a i e free")));
        all.append(";found a i;found b i;found c i;found d i");
        SecondPaper x = check.college(all.toString(), 4);
        int[] due = {7, 0, 4, 5, 4, 3, 16, 12, 4, 8};
        for (int what = 0; what < due.length; what++) {
            check.is("size(" + what + ") of all", x.size(what), due[what]);
        }
        for (String word : LINE_WORDS) {
            boolean found = word.equals("found");
            check.fault(all + ";" + word + " a", word.equals("college") || found ? 3 : 5, all.length() + (found ? 7 : 1));
            check.fault(all + ";" + word, word.equals("college") ? 3 : found ? 1 : 5, all.length() + (found ? 6 : 1));
        }
    }

    private void lacks() {
        check.term("I", "6 LACKS: any LINE ahead of the college; at its WORD;");
        for (String word : LINE_WORDS) {
            if (!word.equals("college")) {
                check.fault("   " + word, 6, 3);
                check.fault(word + ";" + FULL, 6, 0);
            }
        }
        check.term("I", "at the end: no thing, no person, no giver.");
        check.fault(HEAD, 6, HEAD.length());
        check.fault(HEAD + "  ", 6, HEAD.length() + 2);
        check.fault(HEAD + PERSON + TRAM + GIVER, 6, (HEAD + PERSON + TRAM + GIVER).length());
        check.fault(HEAD + THING + TRAM + GIVER, 6, (HEAD + THING + TRAM + GIVER).length());
        check.fault(HEAD + THING + PERSON + TRAM, 6, (HEAD + THING + PERSON + TRAM).length());
        check.college(HEAD + GIVER + PERSON + THING, 1);
    }
}
