import java.util.ArrayList;
import java.util.List;

/**
 * Two objects with the same calls, one of which is refused a call more. Whatever goes on then, by asking
 * or by changing, must be the same on both: so a refused call has changed nothing, not even what only
 * later calls would show.
 */
final class Twins {
    interface Calls {
        void on(Dronegrade x);
    }

    interface Asked {
        Object of(Dronegrade x);
    }

    /** What goes on behind the refused call; each on twins of its own, as an object is good for 512 calls. */
    private enum GoOn {
        ASK_TUNES, WRITE_ON, SET_ON, PIPE_ON, MARK_ON, COMPETE_ANEW
    }

    private final List<String> outcomes = new ArrayList<>();
    private final Dronegrade x;

    private Twins(Dronegrade x) {
        this.x = x;
    }

    static void refused(Check check, Class<? extends RuntimeException> due, String what, Calls ahead, Asked call) {
        for (GoOn goOn : GoOn.values()) {
            Dronegrade troubled = new Dronegrade();
            Dronegrade calm = new Dronegrade();
            ahead.on(troubled);
            ahead.on(calm);
            check.refuses(due, what, () -> call.of(troubled));
            check.tell(what + ", and nothing has changed: " + goOn, allOf(goOn, calm), allOf(goOn, troubled));
        }
    }

    private static String allOf(GoOn goOn, Dronegrade x) {
        Twins one = new Twins(x);
        switch (goOn) {
            case ASK_TUNES -> one.askTunes();
            case WRITE_ON -> one.writeOn();
            case SET_ON -> one.setOn();
            case PIPE_ON -> one.pipeOn();
            case MARK_ON -> one.markOn();
            case COMPETE_ANEW -> one.competeAnew();
        }
        return String.join(" ", one.outcomes);
    }

    private void add(Check.Call call) {
        outcomes.add(Check.outcome(call));
    }

    private void askTunes() {
        for (int i = 0; i <= 10; i++) {
            int tune = i;
            for (int what = 0; what < 7; what++) {
                int asked = what;
                add(() -> x.ofTune(tune, asked));
            }
            add(() -> x.alike(tune, 0));
            add(() -> x.alikeAnew(0, tune));
            add(() -> x.tune(Dronegrade.REEL));
        }
        for (int i = 0; i < 60; i++) {
            int place = i / 5;
            int what = i % 5;
            add(() -> x.played(0, place, what));
        }
    }

    /** The lengths, from the longest one on, show how much is left in the bar. */
    private void writeOn() {
        for (int i = 0; i <= 10; i++) {
            int tune = i;
            add(() -> x.part(tune, true));
            add(() -> x.note(tune, 8, 1, Dronegrade.PLAIN));
            for (int length = 16; length >= 1; length -= length > 8 ? 4 : 1) {
                int units = length;
                add(() -> x.note(tune, 0, units, Dronegrade.D));
            }
            add(() -> x.part(tune, true));
            for (int what = 1; what < 7; what++) {
                int asked = what;
                add(() -> x.ofTune(tune, asked));
            }
        }
    }

    private void setOn() {
        add(x::time);
        for (int i = 0; i < 10; i++) {
            int tune = i;
            add(() -> x.follow(tune, 60));
            add(() -> x.follow(tune, 100));
            add(x::time);
        }
        for (int i = 0; i < 9; i++) {
            add(x::drop);
            add(x::time);
        }
    }

    private void askPipers() {
        for (int i = 0; i <= 8; i++) {
            int piper = i;
            for (int what = 0; what < 6; what++) {
                int asked = what;
                add(() -> x.ofPiper(piper, asked));
            }
            add(() -> x.beats(0, piper));
        }
        add(x::spread);
        add(x::odd);
        add(() -> x.ahead(9, 3, 20));
    }

    private void pipeOn() {
        askPipers();
        add(() -> x.play(3, 9, 20));
        askPipers();
        for (int i = 0; i < 8; i++) {
            int piper = i;
            add(() -> x.rest(piper, false));
            add(() -> x.seat(piper, 1));
            add(() -> x.piper(0, 20, 0));
        }
    }

    private void askBands() {
        for (int i = 0; i <= 8; i++) {
            int band = i;
            for (int what = 0; what < 5; what++) {
                int asked = what;
                add(() -> x.ofBand(band, asked));
            }
        }
    }

    private void handMarksIn(int more) {
        for (int i = 0; i < 36; i++) {
            int judge = i % 4;
            int band = i / 4;
            add(() -> x.mark(judge, band, band * judge % 7 + more));
        }
    }

    /** Leaves out the marks that are there in most cases: to be refused them once more could cover something up. */
    private void handMissingMarksIn() {
        for (int i = 1; i < 36; i++) {
            int judge = i % 4;
            int band = i / 4;
            if (judge != 3 || band != 1) {
                add(() -> x.mark(judge, band, band * judge % 7 + 44));
            }
        }
    }

    private void markOn() {
        askBands();
        add(x::close);
        add(x::season);
        askBands();
        handMissingMarksIn();
        add(x::close);
        askBands();
        add(x::season);
        askBands();
    }

    private void competeAnew() {
        handMarksIn(60);
        add(x::close);
        for (int i = 1; i <= 3; i++) {
            int grade = i;
            add(() -> x.contest(grade));
            handMarksIn(30);
            add(x::close);
        }
        add(() -> x.band(5));
        askBands();
    }
}
