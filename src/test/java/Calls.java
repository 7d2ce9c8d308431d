import java.util.LinkedHashMap;
import java.util.Map;

/** A call of each sort that may be refused, and a paper on which none of them is. */
final class Calls {
    static final String TEXT = "college days 3 limit 30;thing e egg weighs 5;thing d dead weighs 0;person p plain room 2 wakes 1"
        + ";tram x crowd 1 worth 1;giver m skill 1;giver n skill 1;rides p x 0;takes m x 0;gives m e p 0;found e p;exam m e p x free";

    private Calls() {
    }

    /** On day 0, with something to undo and a MARK. */
    static SecondPaper paper() {
        SecondPaper x = Check.told(TEXT);
        x.mark();
        x.give(0, 1, 0);
        return x;
    }

    static Map<String, Check.Call> all() {
        Map<String, Check.Call> calls = new LinkedHashMap<>();
        calls.put("thing(0, 0)", x -> x.thing(0, 0));
        calls.put("person(0, 0)", x -> x.person(0, 0));
        calls.put("giver(0, 0)", x -> x.giver(0, 0));
        calls.put("rides(0, 0)", x -> x.rides(0, 0));
        calls.put("takes(0, 0)", x -> x.takes(0, 0));
        calls.put("meet(0, 1)", x -> x.meet(0, 1));
        calls.put("near(0, 0, 0, 0)", x -> x.near(0, 0, 0, 0));
        calls.put("would(0, 0, 0)", x -> x.would(0, 0, 0));
        calls.put("riders(0, 0)", x -> x.riders(0, 0));
        calls.put("spare(0)", x -> x.spare(0));
        calls.put("safest(0)", x -> x.safest(0));
        calls.put("planned(0)", x -> x.planned(0));
        calls.put("planHas(0, 0)", x -> x.planHas(0, 0));
        calls.put("planScore(0, 0)", x -> x.planScore(0, 0));
        calls.put("first()", x -> x.first());
        calls.put("judge()", x -> x.judge());
        calls.put("amiss()", x -> x.amiss());
        calls.put("soonest()", x -> x.soonest());
        calls.put("never()", x -> x.never());
        calls.put("fits()", x -> x.fits());
        calls.put("could(0)", x -> x.could(0));
        calls.put("surely(0)", x -> x.surely(0));
        calls.put("value(false)", x -> x.value(false));
        calls.put("lot(0, true)", x -> x.lot(0, true));
        calls.put("rests(0)", x -> x.rests(0));
        calls.put("restOf(0, 0)", x -> x.restOf(0, 0));
        calls.put("limit(true)", x -> x.limit(true));
        calls.put("dare(0)", x -> x.dare(0));
        calls.put("honours(0, false)", x -> x.honours(0, false));
        calls.put("drawn(0)", x -> x.drawn(0));
        calls.put("caught(0, 0, 1)", x -> x.caught(0, 0, 1));
        calls.put("give(0, 0, 0)", x -> x.give(0, 0, 0));
        calls.put("day()", x -> x.day());
        calls.put("sew(0)", x -> x.sew(0));
        calls.put("undo()", x -> x.undo());
        calls.put("mark()", x -> x.mark());
        calls.put("back(0)", x -> x.back(0));
        return calls;
    }
}
