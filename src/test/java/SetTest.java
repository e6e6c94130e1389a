/** Promises 9 to 11: the set. */
public final class SetTest {
    private static final Class<IndexOutOfBoundsException> NO_SUCH = IndexOutOfBoundsException.class;
    private static final Class<IllegalArgumentException> BAD = IllegalArgumentException.class;
    private static final Class<IllegalStateException> STATE = IllegalStateException.class;
    private static final Check CHECK = new Check("SetTest");

    public static void main(String[] args) {
        promise9Tempi();
        promise9Notes();
        promise9OneNote();
        promise9WrongInputs();
        promise9LooksAsItIsPutIn();
        promise10Drop();
        promise11Time();
        CHECK.finish();
    }

    /** A tune of two notes, one bar each, one height behind the other. */
    private static int tuneOf(Dronegrade x, int kind, int first, int graceOfFirst, int last) {
        int[] bars = {8, 16, 8, 6};
        int tune = x.tune(kind);
        x.note(tune, first, bars[kind], graceOfFirst);
        x.note(tune, last, bars[kind], last < 8 ? Dronegrade.THUMB : Dronegrade.PLAIN);
        x.part(tune, false);
        return tune;
    }

    private static void promise9Tempi() {
        Dronegrade x = new Dronegrade();
        int march = tuneOf(x, Dronegrade.MARCH, 0, Dronegrade.D, 1);
        int other = tuneOf(x, Dronegrade.MARCH, 2, Dronegrade.D, 3);
        int reel = tuneOf(x, Dronegrade.REEL, 2, Dronegrade.D, 3);
        CHECK.answers(1, "the first tune of the set", () -> x.follow(march, 100));
        CHECK.refuses(STATE, "the same kind, slower", () -> x.follow(other, 99));
        CHECK.refuses(STATE, "the same tune, slower", () -> x.follow(march, 99));
        CHECK.answers(2, "the same kind, as fast", () -> x.follow(other, 100));
        CHECK.answers(3, "the same kind, faster", () -> x.follow(march, 101));
        CHECK.answers(4, "another kind, slower", () -> x.follow(reel, 30));
        CHECK.answers(5, "the last one alone counts", () -> x.follow(march, 31));
    }

    private static void promise9Notes() {
        Dronegrade x = new Dronegrade();
        int endsOn5 = tuneOf(x, Dronegrade.MARCH, 3, Dronegrade.PLAIN, 5);
        int plain5 = tuneOf(x, Dronegrade.JIG, 5, Dronegrade.PLAIN, 5);
        int graced5 = tuneOf(x, Dronegrade.REEL, 5, Dronegrade.HIGH, 4);
        CHECK.answers(1, "the first tune may begin as it likes", () -> x.follow(endsOn5, 80));
        CHECK.refuses(STATE, "plain, with the height of the last one", () -> x.follow(plain5, 80));
        CHECK.answers(2, "graced, with the height of the last one", () -> x.follow(graced5, 80));
        CHECK.answers(3, "plain, with another height", () -> x.follow(plain5, 80));
        CHECK.refuses(STATE, "itself behind itself", () -> x.follow(plain5, 80));
        CHECK.answers(4, "plain, the first height is not the last one", () -> x.follow(endsOn5, 80));
    }

    private static void promise9OneNote() {
        Dronegrade x = new Dronegrade();
        x.tune(Dronegrade.MARCH);
        x.note(0, 5, 8, Dronegrade.PLAIN);
        x.part(0, false);
        CHECK.answers(1, "one note is something", () -> x.follow(0, 30));
        CHECK.refuses(STATE, "its one note is the first and the last one", () -> x.follow(0, 30));
    }

    private static void promise9WrongInputs() {
        Dronegrade x = new Dronegrade();
        CHECK.refuses(NO_SUCH, "no tunes", () -> x.follow(0, 80));
        int jig = tuneOf(x, Dronegrade.JIG, 0, Dronegrade.D, 1);
        int empty = x.tune(Dronegrade.JIG);
        for (int wrong : new int[] {Integer.MIN_VALUE, -1, 2, Integer.MAX_VALUE}) {
            CHECK.refuses(NO_SUCH, "tune " + wrong, () -> x.follow(wrong, 80));
            CHECK.refuses(NO_SUCH, "tune " + wrong + ", no tempo", () -> x.follow(wrong, 29));
        }
        for (int wrong : new int[] {Integer.MIN_VALUE, -1, 0, 29, 601, Integer.MAX_VALUE}) {
            CHECK.refuses(BAD, "tempo " + wrong, () -> x.follow(jig, wrong));
            CHECK.refuses(BAD, "tempo " + wrong + ", and nothing is played", () -> x.follow(empty, wrong));
        }
        CHECK.refuses(STATE, "nothing is played", () -> x.follow(empty, 80));
        x.note(empty, 0, 6, Dronegrade.D);
        CHECK.refuses(STATE, "open notes are not played", () -> x.follow(empty, 80));
        for (int i = 1; i <= 8; i++) {
            CHECK.answers(i, "tune " + i + " of the set", () -> x.follow(jig, 600));
        }
        CHECK.refuses(STATE, "ninth tune of the set", () -> x.follow(jig, 600));
        CHECK.refuses(BAD, "ninth tune of the set, no tempo", () -> x.follow(jig, 601));
        CHECK.answers(9600L, "the set is as it was", () -> x.time());
        x.drop();
        CHECK.answers(8, "room again", () -> x.follow(jig, 600));
    }

    private static void promise9LooksAsItIsPutIn() {
        Dronegrade x = new Dronegrade();
        int march = tuneOf(x, Dronegrade.MARCH, 0, Dronegrade.D, 1);
        int reel = tuneOf(x, Dronegrade.REEL, 4, Dronegrade.PLAIN, 2);
        x.follow(march, 60);
        x.follow(reel, 60);
        x.note(march, 4, 8, Dronegrade.PLAIN);
        CHECK.answers(32000L, "open notes take no time", () -> x.time());
        x.part(march, true);
        CHECK.answers(48000L, "a part that comes later is played as well", () -> x.time());
        CHECK.answers(1, "and the set stands, though the reel would not follow now", () -> x.drop());
        CHECK.refuses(STATE, "it is looked at by what the tunes are then", () -> x.follow(reel, 60));
    }

    private static void promise10Drop() {
        Dronegrade x = new Dronegrade();
        CHECK.refuses(STATE, "drop of nothing", () -> x.drop());
        tuneOf(x, Dronegrade.MARCH, 0, Dronegrade.D, 1);
        tuneOf(x, Dronegrade.JIG, 0, Dronegrade.D, 1);
        x.follow(1, 90);
        x.follow(0, 80);
        x.follow(1, 70);
        CHECK.answers(1, "the last one", () -> x.drop());
        CHECK.refuses(STATE, "the last one is the march of 80 again", () -> x.follow(0, 79));
        CHECK.answers(0, "the one ahead of it", () -> x.drop());
        CHECK.answers(8000L, "the jig of 90 is left", () -> x.time());
        CHECK.answers(1, "the first one", () -> x.drop());
        CHECK.refuses(STATE, "drop of nothing again", () -> x.drop());
        CHECK.answers(1, "a new first one", () -> x.follow(0, 30));
    }

    private static void promise11Time() {
        Dronegrade x = new Dronegrade();
        CHECK.answers(0L, "no tunes", () -> x.time());
        tuneOf(x, Dronegrade.MARCH, 0, Dronegrade.D, 1);
        tuneOf(x, Dronegrade.JIG, 0, Dronegrade.D, 1);
        x.follow(0, 77);
        CHECK.answers(12467L, "960000 / 77, rounded down", () -> x.time());
        x.follow(1, 77);
        CHECK.answers(12467L + 9350L, "and 720000 / 77, rounded down by itself", () -> x.time());
        x.follow(0, 77);
        CHECK.answers(12467L + 9350L + 12467L, "each time by itself", () -> x.time());
        x.follow(1, 77);
        CHECK.answers(2 * (12467L + 9350L), "not the sum rounded down, 43636", () -> x.time());
        Dronegrade y = new Dronegrade();
        y.tune(Dronegrade.STRATHSPEY);
        for (int i = 0; i < 64; i++) {
            y.note(0, 0, 16, Dronegrade.D);
        }
        y.part(0, true);
        for (int i = 0; i < 8; i++) {
            y.follow(0, 30);
        }
        CHECK.answers(32768000L, "the longest set", () -> y.time());
    }
}
