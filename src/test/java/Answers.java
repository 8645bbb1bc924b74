import java.util.ArrayList;
import java.util.List;

/**
 * All that an object can be asked, each answer with its call. For 4 cellars, 24 wheels and 4 monks
 * these are 408 calls, so that an object has some hundred others left of its 512.
 */
final class Answers {
    private final List<String> told = new ArrayList<>();
    private final CheeseRota x;

    private Answers(CheeseRota x) {
        this.x = x;
    }

    /** Lets days go by at the end: what lies hidden shows then. */
    static List<String> of(CheeseRota x) {
        Answers answers = new Answers(x);
        answers.ofCounts();
        answers.ofCellars();
        answers.ofWheels();
        answers.ofMonks();
        answers.ofLookingAhead();
        answers.ofDaysThatGoBy();
        return answers.told;
    }

    private void tell(String call, long answer) {
        told.add(call + " answers " + answer);
    }

    private void ofCounts() {
        for (int what = 0; what <= 8; what++) {
            tell("count(" + what + ")", x.count(what));
        }
        told.add("mean() answers " + x.mean());
        tell("digest()", x.digest());
    }

    private void ofCellars() {
        int cellars = x.count(1);
        for (int cellar = 0; cellar < cellars; cellar++) {
            for (int what = 0; what <= 3; what++) {
                tell("cellar(" + cellar + ", " + what + ")", x.cellar(cellar, what));
            }
            for (int place = 0; place <= 9; place++) {
                tell("at(" + cellar + ", " + place + ")", x.at(cellar, place));
            }
        }
    }

    private void ofWheels() {
        int wheels = x.count(2);
        for (int wheel = 0; wheel < wheels; wheel++) {
            for (int what = 0; what <= 10; what++) {
                tell("wheel(" + wheel + ", " + what + ")", x.wheel(wheel, what));
            }
            tell("best(" + wheel + ")", x.best(wheel));
            tell("advise(" + wheel + ", 10)", x.advise(wheel, 10));
        }
    }

    private void ofMonks() {
        int monks = x.count(8);
        for (int monk = 0; monk < monks; monk++) {
            for (int what = 0; what <= 4; what++) {
                tell("monk(" + monk + ", " + what + ")", x.monk(monk, what));
            }
        }
    }

    private void ofLookingAhead() {
        for (int what = 0; what <= 2; what++) {
            tell("foresee(20, " + what + ")", x.foresee(20, what));
        }
    }

    private void ofDaysThatGoBy() {
        tell("pass(9)", x.pass(9));
        tell("digest() behind pass(9)", x.digest());
    }
}
