import java.util.ArrayList;
import java.util.List;

/**
 * All that an object tells of itself, line by line: as things are, behind each undo(), behind back()
 * of both IMAGES, and what THE TEXT in it tells. The object is used up by that.
 */
final class Story {
    private final LadderSurvey x;
    private final List<String> lines = new ArrayList<>();
    private String when = "";
    private int travellers;
    private int top;

    private Story(LadderSurvey x) {
        this.x = x;
    }

    static List<String> of(LadderSurvey x) {
        Story story = new Story(x);
        story.whatIsTold();
        story.whatIsUndone();
        for (int image = 0; image < 2; image++) {
            story.when = "behind back(" + image + "): ";
            story.tell("back()", x.back(image));
            story.whatIsNow();
        }
        story.when = "behind ladder(): ";
        story.tell("ladder()", x.ladder());
        story.whatIsTold();
        return story.lines;
    }

    private void whatIsUndone() {
        for (int undone = 1; undone <= 11; undone++) {
            int more = x.undo();
            when = "behind undo() " + undone + ": ";
            tell("undo()", more);
            if (more < 0) {
                return;
            }
            whatIsNow();
        }
    }

    private void tell(String call, long answer) {
        lines.add(when + call + " is " + answer);
    }

    private void whatIsTold() {
        for (int what = 0; what < 7; what++) {
            tell("count(" + what + ")", x.count(what));
        }
        travellers = x.count(1);
        top = x.now(0);
        for (int s = 0; s < 3; s++) {
            for (int what = 0; what < 4; what++) {
                tell("stretch(" + s + ", " + what + ")", x.stretch(s, what));
            }
        }
        for (int t = 0; t < travellers; t++) {
            tell("traveller(" + t + ", 0)", x.traveller(t, 0));
            tell("can(" + t + ")", x.can(t));
        }
        tell("can(-2)", x.can(-2));
        tell("can(-1)", x.can(-1));
        tell("agree(0)", x.agree(0));
        tell("agree(1)", x.agree(1));
        tell("now(0)", top);
        tell("altitude(the top)", x.altitude(1000 * top));
        tell("now(4)", x.now(4));
        tell("now(5)", x.now(5));
        tell("trace()", x.trace());
        whatIsNow();
    }

    private void whatIsNow() {
        for (int t = 0; t < travellers; t++) {
            tell("traveller(" + t + ", 1)", x.traveller(t, 1));
            tell("traveller(" + t + ", 2)", x.traveller(t, 2));
        }
        for (int mark = 0; mark < top; mark++) {
            tell("wear(0, " + mark + ")", x.wear(0, mark));
            tell("wear(1, " + mark + ")", x.wear(1, mark));
        }
        for (int i = 0; i < 6; i++) {
            tell("thing(" + i + ")", x.thing(i));
        }
    }
}
