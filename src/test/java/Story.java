import java.util.ArrayList;
import java.util.List;

/** What an object answers to a long row of calls, as texts: two objects of one state tell the same. */
final class Story {
    private final RopeRooms r;
    private final List<String> told = new ArrayList<>();

    private Story(RopeRooms r) {
        this.r = r;
    }

    static List<String> of(RopeRooms r) {
        Story story = new Story(r);
        story.asItIs();
        story.wishes();
        story.asItGoesOn();
        story.whatIsAdded();
        story.theTapeAsTown();
        story.oneRuleMore();
        return story.told;
    }

    private void tell(String call, long answer) {
        told.add(call + " = " + answer);
    }

    private void counts() {
        for (int what = 0; what <= 6; what++) {
            tell("count(" + what + ")", r.count(what));
        }
    }

    private void asItIs() {
        counts();
        tell("fault(0)", r.fault(0));
        tell("fault(1)", r.fault(1));
        int ropes = r.count(0);
        for (int p = 0; p < ropes; p++) {
            for (int what = 0; what <= 9; what++) {
                tell("rope(" + p + ", " + what + ")", r.rope(p, what));
            }
        }
        for (int room = 0; room < 2 * ropes; room++) {
            for (int what = 0; what <= 3; what++) {
                tell("room(" + room + ", " + what + ")", r.room(room, what));
            }
        }
        for (int i = 0; i < 8; i++) {
            tell("where(" + i + ")", r.where(i));
        }
        for (int place = -1; place < 18; place++) {
            tell("group(" + place + ")", r.group(place));
        }
    }

    private void wishes() {
        tell("together(0)", r.together(0));
        tell("together(1)", r.together(1));
        tell("pails(NONE)", r.pails(-1));
        tell("slipped(2)", r.slipped(2));
        tell("orders(0)", r.orders(0));
        tell("orders(1)", r.orders(1));
        tell("best(7)", r.best(7));
        tell("strain(NONE)", r.strain(-1));
        tell("rent(NONE, 3)", r.rent(-1, 3));
        for (int rule = 0; rule < 4; rule++) {
            tell("tried(" + rule + ", 9, 0)", r.tried(rule, 9, 0));
            tell("tried(" + rule + ", 9, 1)", r.tried(rule, 9, 1));
        }
    }

    private void asItGoesOn() {
        tell("minutes(7)", r.minutes(7));
        places();
        tell("back()", r.back());
        places();
        tell("minutes(5)", r.minutes(5));
        places();
    }

    private void places() {
        for (int p = 0; p < r.count(0); p++) {
            tell("later rope(" + p + ", 2)", r.rope(p, 2));
            tell("later rope(" + p + ", 6)", r.rope(p, 6));
            tell("later room(" + 2 * p + ", 2)", r.room(2 * p, 2));
        }
        tell("later count(3)", r.count(3));
    }

    private void whatIsAdded() {
        tell("gallery(9)", r.gallery(9));
        tell("person(9, 0)", r.person(9, 0));
        tell("task(0, 1)", r.task(0, 1));
        tell("keep(0, 3)", r.keep(0, 3));
        counts();
    }

    private void theTapeAsTown() {
        tell("text(0, 3)", r.text(0, 3));
        counts();
        for (int p = 0; p < r.count(0); p++) {
            tell("rope(" + p + ", 1) of the new town", r.rope(p, 1));
        }
    }

    private void oneRuleMore() {
        Check.tape(r, "y:t=1?1");
        int rule = r.text(1, 3);
        tell("text(1, 3)", rule);
        tell("keep(" + rule + ", 3)", r.keep(rule, 3));
    }
}
