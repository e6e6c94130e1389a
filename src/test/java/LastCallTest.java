/** "An object is used for at most 512 calls after it has been made": the 512th is still answered as it is due. */
public final class LastCallTest {
    private static final int MOST_CALLS = 512;
    private static final Check CHECK = new Check("LastCallTest");

    private final Dronegrade x = new Dronegrade();
    private int calls;

    public static void main(String[] args) {
        CHECK.sentence("An object is used for at most 512 calls after it has been made");
        new LastCallTest().refusedCalls();
        new LastCallTest().askedAlways();
        new LastCallTest().intoTheSetAndOut();
        new LastCallTest().writtenToTheEnd();
        new LastCallTest().seatToAndFro();
        new LastCallTest().minutes();
        new LastCallTest().contests();
        new LastCallTest().seasons();
        CHECK.finish();
    }

    private boolean isLeft(int more) {
        return calls + more <= MOST_CALLS;
    }

    private void due(Object due, Check.Call call) {
        calls++;
        CHECK.answers(due, "call " + calls, call);
    }

    private void refused(Class<? extends RuntimeException> due, Check.Call call) {
        calls++;
        CHECK.refuses(due, "call " + calls, call);
    }

    private void refusedCalls() {
        while (isLeft(5)) {
            refused(IllegalArgumentException.class, () -> x.tune(4));
            refused(IndexOutOfBoundsException.class, () -> x.note(0, 0, 1, 0));
            refused(IllegalStateException.class, x::drop);
            refused(IllegalStateException.class, x::close);
        }
        refused(IllegalArgumentException.class, () -> x.band(0));
        while (isLeft(2)) {
            refused(IllegalArgumentException.class, () -> x.piper(0, 0, 0));
        }
        due(0, () -> x.tune(0));
    }

    private void askedAlways() {
        due(0, () -> x.tune(Dronegrade.MARCH));
        for (int i = 0; i < 64; i++) {
            int count = i + 1;
            due(count, () -> x.note(0, 0, 1, Dronegrade.D));
        }
        due(8, () -> x.part(0, true));
        while (isLeft(5)) {
            due(128, () -> x.alike(0, 0));
            due(128, () -> x.alikeAnew(0, 0));
            due(127, () -> x.played(0, 127, 3));
            due(0L, x::time);
        }
        while (isLeft(1)) {
            due(128, () -> x.ofTune(0, 4));
        }
    }

    private void intoTheSetAndOut() {
        due(0, () -> x.tune(Dronegrade.JIG));
        due(1, () -> x.note(0, 0, 6, Dronegrade.D));
        due(1, () -> x.part(0, false));
        while (isLeft(17)) {
            for (int i = 1; i <= 8; i++) {
                int count = i;
                due(count, () -> x.follow(0, 60));
            }
            for (int i = 0; i < 8; i++) {
                due(0, x::drop);
            }
        }
        while (isLeft(3)) {
            due(1, () -> x.follow(0, 60));
            due(0, x::drop);
        }
        while (isLeft(1)) {
            due(0L, x::time);
        }
    }

    private void writtenToTheEnd() {
        for (int tune = 0; tune < 7; tune++) {
            int of = tune;
            due(tune, () -> x.tune(Dronegrade.MARCH));
            for (int i = 1; i <= 64; i++) {
                int count = i;
                due(count, () -> x.note(of, count % 9, 1, Dronegrade.PLAIN));
            }
            due(8, () -> x.part(of, true));
            due(128, () -> x.alikeAnew(of, 0));
        }
        due(7, () -> x.tune(Dronegrade.MARCH));
        int written = 0;
        while (isLeft(2)) {
            written++;
            int count = written;
            due(count, () -> x.note(7, count % 9, 1, Dronegrade.PLAIN));
        }
        due(written, () -> x.ofTune(7, 6));
    }

    private void seatToAndFro() {
        due(0, () -> x.piper(0, 20, 0));
        while (isLeft(3)) {
            due(100, () -> x.seat(0, 100));
            due(0, () -> x.seat(0, -100));
        }
        while (isLeft(1)) {
            due(40, () -> x.ofPiper(0, 0));
        }
    }

    private void minutes() {
        due(0, () -> x.piper(100, 40, 9));
        due(1, () -> x.piper(-100, 10, 0));
        due(159, () -> x.ahead(12, 0, 40));
        due(145, () -> x.play(120, 9, 40));
        while (isLeft(2)) {
            due(60, () -> x.play(120, 9, 40));
        }
        due(60, x::spread);
    }

    private void contests() {
        due(0, () -> x.band(1));
        due(1, () -> x.band(1));
        int contests = 0;
        while (isLeft(12)) {
            due(2, () -> x.contest(1));
            for (int i = 0; i < 8; i++) {
                int judge = i % 4;
                int band = i / 4;
                due(7 - i, () -> x.mark(judge, band, band));
            }
            due(1, x::close);
            contests++;
        }
        int first = contests;
        due(4 * first, () -> x.ofBand(0, 1));
        due(6 * first, () -> x.ofBand(1, 1));
        while (isLeft(1)) {
            due(first, () -> x.ofBand(1, 4));
        }
    }

    private void seasons() {
        due(0, () -> x.band(5));
        while (isLeft(2)) {
            due(0, x::season);
        }
        due(5, () -> x.ofBand(0, 0));
    }
}
