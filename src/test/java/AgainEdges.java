import java.util.NoSuchElementException;

/** One object told several colleges, asked again and again: nothing of what came ahead is left in an answer. */
final class AgainEdges {
    private static final String SMALL = "college days 2 limit 0;thing a dead weighs 0;person p plain room 1 wakes 0;giver m skill 0";
    private static final String SOON = SMALL + ";tram x crowd 0 worth 7;takes m x 1;rides p x 1;gives m a p 1;found a p;exam m a p x free";
    private static final String SOONER = SOON + ";takes m x 0;rides p x 0;giver n skill 0;takes n x 0";
    private static final String FULL = "college days 7 limit 40;thing d live weighs 9;thing a egg weighs 50;thing b dead weighs 3;thing c live weighs 0"
        + ";person q guard room 9 wakes 20;person p tailor room 5 wakes 44;person r bishop room 1 wakes 60;person s plain room 3 wakes 5"
        + ";person t plain room 0 wakes 99;tram w crowd 9 worth 60;tram x crowd 1 worth 20;tram y crowd 30 worth 30;tram z crowd 0 worth 59"
        + ";giver o skill 9;giver m skill 31;giver n skill 0;rides q w 0;rides p w 0;rides r x 1;rides s w 0;rides t y 1;rides s y 1;rides q x 6"
        + ";takes o w 0;takes m y 1;takes n x 6;takes m w 0;takes n w 0;takes o y 1"
        + ";gives o d t 0;gives m d s 0;gives n a q 0;gives m b s 0;gives o a s 1;gives m c t 1;gives m d s 1;gives o b r 6"
        + ";found c q;found a s;found d p;exam o d q w caught;exam n b s z free;exam m a t y caught";
    private static final String FULLER = FULL.replace("college days 7 limit 40", "college days 7 limit 100").replace("room 0", "room 9")
        .replace(" w 0", " x 0").replace("takes n x 6", "takes n x 5").replace("worth 60", "worth 1").replace("gives n a q", "gives n c q");
    private static final String[] TEXTS = {SMALL, SOON, SOONER, FULL, FULLER};
    private static final String[] FAULTY = {"", "!", "college", "coll", "college days 30", FULL + ";", FULL + ";thing e egg weighs 1", FULL.substring(0, 400),
        SOON + ";rides unknown", SOON + ";found a p"};

    private final Check check;

    AgainEdges(Check check) {
        this.check = check;
    }

    void run() {
        check.promise(3, "are the COLLEGE from now on");
        for (String text : TEXTS) {
            check.college(text, text.split(";thing ").length - 1);
            for (String ahead : TEXTS) {
                SecondPaper x = Check.told(ahead);
                answers(x);
                Check.tell(x, text);
                check.same("\"" + text + "\" behind \"" + ahead + "\"", answers(x), answers(Check.told(text)));
                check.same("\"" + text + "\" asked again", answers(x), answers(Check.told(text)));
                SecondPaper third = Check.told(ahead);
                Check.tell(third, ahead);
                Check.tell(third, text);
                check.same("\"" + text + "\" behind \"" + ahead + "\" twice", answers(third), answers(Check.told(text)));
            }
        }
        check.promise(3, "4 (the COLLEGE stays).");
        for (String text : TEXTS) {
            for (String fault : FAULTY) {
                SecondPaper x = Check.told(text);
                Check.tell(x, fault);
                check.same("\"" + text + "\" behind a fault in \"" + fault + "\"", answers(x), answers(Check.told(text)));
                // And the next text is read from its first byte on.
                Check.tell(x, TEXTS[0]);
                check.same("\"" + TEXTS[0] + "\" behind a fault in \"" + fault + "\"", answers(x), answers(Check.told(TEXTS[0])));
                Check.tell(x, "   !");
                check.is("where() behind a fault in \"" + fault + "\"", x.where(), 3);
            }
        }
    }

    /** Some 130 answers, with TROUBLE of those that may be refused by more than one number. */
    private static String answers(SecondPaper x) {
        StringBuilder all = new StringBuilder();
        for (int what = 0; what <= 13; what++) {
            all.append(x.size(what)).append(' ');
        }
        for (int t = 0; t < 4; t++) {
            all.append("\nthing ").append(t).append(": ").append(x.thing(t, 0)).append(' ').append(x.thing(t, 1)).append(' ').append(x.thing(t, 2))
                .append(' ').append(x.safest(t)).append(' ').append(x.soonestOf(t)).append('/').append(x.trouble())
                .append(' ').append(x.could(t)).append(' ').append(x.surely(t)).append(' ').append(x.lot(t, false)).append('/').append(x.lot(t, true));
        }
        for (int p = 0; p < 5; p++) {
            all.append("\nperson ").append(p).append(": ").append(x.person(p, 0)).append(' ').append(x.person(p, 1)).append(' ').append(x.person(p, 2))
                .append(' ').append(x.person(p, 3)).append(' ').append(x.rides(p, 0)).append(' ').append(x.rides(p, 1))
                .append(' ').append(x.planHas(p, 1)).append(' ').append(x.restOf(0, p)).append('/').append(x.trouble()).append(' ').append(x.restOf(1, p));
        }
        for (int g = 0; g < 3; g++) {
            all.append("\ngiver ").append(g).append(": ").append(x.giver(g, 0)).append(' ').append(x.giver(g, 1)).append(' ').append(x.giver(g, 2))
                .append(' ').append(x.takes(g, 0)).append(' ').append(x.takes(g, 1)).append(' ').append(x.meet(g, (g + 1) % 3))
                .append(' ').append(x.planScore(g, 1)).append(' ').append(x.caught(g, 7, 3)).append(' ').append(x.planScore(g, 0));
        }
        all.append("\nplan: ").append(x.first()).append(' ').append(x.judge()).append(' ').append(x.amiss()).append(' ').append(x.drawn(0));
        for (int k = 0; k < 9; k++) {
            all.append(' ').append(x.planned(k));
        }
        all.append("\nall: ").append(x.soonest()).append(' ').append(x.never()).append(' ').append(x.fits()).append('/').append(x.trouble())
            .append(' ').append(x.value(false)).append('/').append(x.value(true)).append(' ').append(x.trouble())
            .append(' ').append(x.rests(0)).append(' ').append(x.rests(1)).append(' ').append(x.rests(0)).append(' ').append(x.limit(false))
            .append(' ').append(x.limit(true)).append(' ').append(x.near(0, 0, 0, 0)).append(' ').append(x.near(1, 1, 1, 1))
            .append(' ').append(x.would(0, 0, 0)).append(' ').append(x.riders(0, 0)).append(' ').append(x.spare(1));
        try {
            all.append(' ').append(x.led(0));
        } catch (NoSuchElementException e) {
            all.append(" none");
        }
        return all.toString();
    }
}
