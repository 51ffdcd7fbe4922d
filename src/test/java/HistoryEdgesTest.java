import java.util.List;
import java.util.function.Consumer;

/** The edges in 'Changes and errors', and in promise 17. */
public final class HistoryEdgesTest extends Calls {
    public static void main(String[] args) {
        checks = new Checks("HistoryEdgesTest");
        emptyAtFirst();
        eachChangeIsRecorded();
        changesThatAlterNothingAreRecorded();
        whatIsNoChangeIsNotRecorded();
        atMostFourStates();
        theOldestOneIsDropped();
        emptyBehindTheLastUndo();
        undoIsNoChange();
        fourStatesTwice();
        everythingButTheText();
        undoOfEachChange();
        undoThroughABeginning();
        checks.end();
    }

    private static void emptyAtFirst() {
        checks.part("undo: NOT_POSSIBLE if the history is empty");
        ParticleLines x = new ParticleLines();
        due("count(9)", x.count(9), 0);
        due("undo()", x.undo(), NOT_POSSIBLE);
        due("count(9)", x.count(9), 0);
        dueSame("behind undo", x, new ParticleLines());
    }

    private static void recorded(String change, int states, Consumer<ParticleLines> call) {
        ParticleLines x = new ParticleLines();
        call.accept(x);
        due("count(9) behind " + change, x.count(9), states);
    }

    private static void eachChangeIsRecorded() {
        checks.part("the changes are begin, weigh, move, observe, resample, set and play");
        recorded("begin", 1, x -> x.begin(2, 3, 4));
        recorded("weigh", 1, x -> x.weigh(0, 2));
        recorded("move", 1, x -> x.move(1, 1));
        recorded("observe", 1, x -> x.observe(1, 99));
        recorded("observe that resamples", 1, x -> x.observe(0, 1));
        recorded("resample", 1, x -> x.resample());
        recorded("set", 1, x -> x.set(2, 3));
        recorded("play", 1, x -> {
            write(x, "r;m1,1;o1,99;r;");
            x.play();
        });
    }

    private static void changesThatAlterNothingAreRecorded() {
        checks.part("each change records, also one that alters nothing");
        recorded("begin", 1, x -> x.begin(4, 0, 10));
        recorded("weigh", 1, x -> x.weigh(0, 1));
        recorded("set", 1, x -> x.set(0, 3));
        recorded("play", 1, x -> x.play());
    }

    private static void whatIsNoChangeIsNotRecorded() {
        checks.part("the changes: no other calls");
        recorded("type", 0, x -> x.type('r'));
        recorded("clearText", 0, x -> x.clearText());
        recorded("clearText of a text", 0, x -> {
            write(x, "r;");
            x.clearText();
        });
        recorded("fault", 0, x -> {
            write(x, "r;m1,1;");
            x.fault(0);
        });
        recorded("would", 0, x -> x.would(1, 0));
        recorded("everything that tells", 0, x -> everything(x));
        recorded("begin with an error", 0, x -> x.begin(0, 0, 0));
        recorded("weigh with an error", 0, x -> x.weigh(4, 0));
        recorded("move with an error", 0, x -> x.move(100, 0));
        recorded("observe with an error", 0, x -> x.observe(99, 1));
        recorded("set with an error", 0, x -> x.set(3, 0));
        recorded("play with an error", 0, x -> {
            write(x, "r;m1,1");
            x.play();
        });
    }

    private static void atMostFourStates() {
        checks.part("a history of at most 4 states is kept");
        ParticleLines x = new ParticleLines();
        for (int change = 1; change <= 19; change++) {
            x.move(1, 0);
            due("count(9) behind change " + change, x.count(9), Math.min(change, 4));
        }
        x.move(1, 0);
        due("count(9) behind an error", x.count(9), 4);
    }

    private static void theOldestOneIsDropped() {
        checks.part("if there are 5 states then, the oldest one is dropped");
        for (int changes = 1; changes <= 9; changes++) {
            ParticleLines x = new ParticleLines();
            for (int change = 1; change <= changes; change++) {
                x.set(2, change);
            }
            int states = Math.min(changes, 4);
            for (int left = states - 1; left >= 0; left--) {
                due("undo() behind " + changes, x.undo(), left);
                int before = changes - states + left;
                due("count(22) behind " + changes, x.count(22), before == 0 ? 50 : before);
            }
            due("undo() of none behind " + changes, x.undo(), NOT_POSSIBLE);
        }
    }

    private static void emptyBehindTheLastUndo() {
        checks.part("returns the number of states that are left");
        ParticleLines x = new ParticleLines();
        x.set(0, 4);
        x.set(0, 5);
        due("undo()", x.undo(), 1);
        due("count(20)", x.count(20), 4);
        due("undo()", x.undo(), 0);
        due("count(20)", x.count(20), 3);
        due("undo()", x.undo(), NOT_POSSIBLE);
        due("count(20)", x.count(20), 3);
        due("count(9)", x.count(9), 0);
    }

    private static void undoIsNoChange() {
        checks.part("undo removes a state and records none");
        ParticleLines x = new ParticleLines();
        x.set(0, 4);
        x.set(0, 5);
        x.undo();
        x.set(0, 6);
        due("count(9)", x.count(9), 2);
        due("undo()", x.undo(), 1);
        due("count(20)", x.count(20), 4);
        due("undo()", x.undo(), 0);
        due("count(20)", x.count(20), 3);
    }

    private static void fourStatesTwice() {
        checks.part("at most 4 states, behind undoing");
        ParticleLines x = new ParticleLines();
        for (int change = 1; change <= 6; change++) {
            x.set(2, change);
        }
        due("undo()", x.undo(), 3);
        due("undo()", x.undo(), 2);
        for (int change = 11; change <= 13; change++) {
            x.set(2, change);
        }
        due("count(9)", x.count(9), 4);
        int[] dues = {12, 11, 4, 3};
        for (int k = 0; k < 4; k++) {
            due("undo()", x.undo(), 3 - k);
            due("count(22)", x.count(22), dues[k]);
        }
        due("undo()", x.undo(), NOT_POSSIBLE);
    }

    private static void everythingButTheText() {
        checks.part("everything before it but the text");
        ParticleLines x = new ParticleLines();
        x.move(3, 3);
        write(x, "m1,1;");
        due("play()", x.play(), 1);
        x.type('r');
        due("undo()", x.undo(), 1);
        due("count(10)", x.count(10), 6);
        due("fault(0)", x.fault(0), 5);
        due("fault(2)", x.fault(2), 1);
        due("count(1)", x.count(1), 2);
        x.clearText();
        due("undo()", x.undo(), 0);
        due("count(10)", x.count(10), 0);
    }

    /** Two particles of three have weights, and all that is counted was counted. */
    private static ParticleLines used() {
        ParticleLines x = new ParticleLines();
        x.begin(3, 20, 9);
        x.set(0, 2);
        x.set(1, 1);
        x.set(2, 77);
        x.move(3, 4);
        x.observe(25, 30);
        x.resample();
        x.weigh(0, 6);
        x.weigh(1, 9);
        x.weigh(2, 0);
        write(x, "m-1,5;o22,50;r;");
        return x;
    }

    private static void undone(String change, Consumer<ParticleLines> call) {
        for (int more = 0; more <= 3; more++) {
            ParticleLines x = used();
            ParticleLines y = used();
            call.accept(x);
            due("undo() of " + change, x.undo(), 3);
            for (int undo = 1; undo <= more; undo++) {
                due("undo() behind that", x.undo(), 3 - undo);
                due("undo() without that", y.undo(), 4 - undo);
            }
            dueSameButForStates("behind undoing " + change + " and " + more + " more", x, y);
        }
    }

    /** The fifth change dropped a state, so that there is one less. */
    private static void dueSameButForStates(String what, ParticleLines x, ParticleLines y) {
        List<Integer> told = everything(x);
        List<Integer> want = everything(y);
        want.set(9, want.get(9) - 1);
        due(what + ": how many answers", told.size(), want.size());
        for (int k = 0; k < told.size() && k < want.size(); k++) {
            due(what + ": answer " + k, told.get(k), want.get(k));
        }
    }

    private static void undoOfEachChange() {
        checks.part("restores the latest state of the history");
        undone("begin", x -> x.begin(12, 99, 1));
        undone("weigh", x -> x.weigh(2, 1000000));
        undone("weigh of nothing", x -> x.weigh(0, 0));
        undone("move", x -> x.move(-99, 99));
        undone("observe", x -> x.observe(25, 99));
        undone("observe that resamples", x -> x.observe(x.particleOf(0, 0), 1));
        undone("resample", x -> x.resample());
        undone("set 0", x -> x.set(0, 12));
        undone("set 1", x -> x.set(1, 2));
        undone("set 2", x -> x.set(2, 0));
        undone("play", x -> due("play()", x.play(), 3));
    }

    private static void undoThroughABeginning() {
        checks.part("undo brings back generations, counted observations and the noise");
        ParticleLines x = new ParticleLines();
        fill(x);
        x.observe(15, 50);
        x.begin(1, 0, 0);
        due("undo()", x.undo(), 3);
        due("count(0)", x.count(0), 4);
        due("count(1)", x.count(1), 20);
        due("count(7)", x.count(7), 1);
        due("common(3, 3)", x.common(3, 3), 19);
        due("move(0, 0)", x.move(0, 0), LIMIT);
        due("undo()", x.undo(), 2);
        due("count(7)", x.count(7), 0);
        due("undo()", x.undo(), 1);
        due("count(1)", x.count(1), 19);
    }
}
