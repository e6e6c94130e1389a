/**
 * "A call that throws an exception changes nothing; if several exceptions apply, the one that its throws
 * clause names first is thrown": for each call, each exception alone, and each two or three of them at once.
 */
public final class RefusedCallsTest {
    private static final Class<IndexOutOfBoundsException> NO_SUCH = IndexOutOfBoundsException.class;
    private static final Class<IllegalArgumentException> BAD = IllegalArgumentException.class;
    private static final Class<IllegalStateException> STATE = IllegalStateException.class;
    private static final int[] ENDS = {Integer.MIN_VALUE, Integer.MAX_VALUE};
    private static final Check CHECK = new Check("RefusedCallsTest");

    public static void main(String[] args) {
        CHECK.sentence("A call that throws an exception changes nothing; if several exceptions apply, "
            + "the one that its throws clause names first is thrown.");
        tune();
        note();
        noteNotLawful();
        noteOverTheEndOfTheBar();
        noteBehindAllNotes();
        part();
        partBehindAllParts();
        playedAndOfTune();
        alike();
        follow();
        followBehindAllTunes();
        dropOfNothing();
        piper();
        seat();
        rest();
        playAndAhead();
        ofPiperAndBeats();
        band();
        contest();
        mark();
        close();
        season();
        ofBand();
        CHECK.finish();
    }

    private static void refused(Class<? extends RuntimeException> due, String what, Twins.Calls ahead, Twins.Asked call) {
        Twins.refused(CHECK, due, what, ahead, call);
    }

    /** In the midst of everything: three tunes, two of them in the set, three pipers, and an open contest. */
    private static void begun(Dronegrade x) {
        begunTunes(x);
        begunPipers(x);
        begunBands(x);
    }

    /** A march with a part and 5 units open, ending on 4; a jig that ends on 2; a strathspey of nothing. */
    private static void begunTunes(Dronegrade x) {
        x.tune(Dronegrade.MARCH);
        x.note(0, 1, 4, Dronegrade.E);
        x.note(0, 6, 4, Dronegrade.PLAIN);
        x.part(0, true);
        x.note(0, 4, 5, Dronegrade.THROW);
        x.tune(Dronegrade.JIG);
        x.note(1, 2, 6, Dronegrade.PLAIN);
        x.part(1, false);
        x.tune(Dronegrade.STRATHSPEY);
        x.follow(0, 80);
        x.follow(1, 60);
    }

    private static void begunPipers(Dronegrade x) {
        x.piper(5, 20, 3);
        x.piper(-7, 30, 0);
        x.piper(0, 10, 9);
        x.rest(1, true);
        x.seat(0, 90);
        x.seat(2, -95);
        x.play(12, 1, 5);
    }

    /** The bands 0, 1 and 3 of grade 2 take part, 2 is of grade 3, and 4 of grade 2 came too late. */
    private static void begunBands(Dronegrade x) {
        x.band(2);
        x.band(2);
        x.band(3);
        x.band(2);
        x.contest(2);
        x.mark(0, 0, 50);
        x.mark(3, 1, 0);
        x.band(2);
    }

    /** All that can be full of tunes: 0 has 8 parts and an open bar, 1 has 64 notes in a part, 2 has 64 open. */
    private static void fullOfTunes(Dronegrade x) {
        for (int i = 0; i < 10; i++) {
            x.tune(Dronegrade.MARCH);
        }
        for (int i = 0; i < 8; i++) {
            x.note(0, i % 2, 8, Dronegrade.PLAIN);
            x.part(0, i % 2 == 0);
        }
        x.note(0, 5, 8, Dronegrade.PLAIN);
        for (int i = 0; i < 64; i++) {
            x.note(1, 2, 1, Dronegrade.E);
            x.note(2, 3, 1, Dronegrade.DOUBLING);
        }
        x.part(1, true);
        for (int i = 0; i < 8; i++) {
            x.follow(i % 2, 90);
        }
    }

    /** All that can be full but tunes; all marks of the contest of 8 are there. */
    private static void fullOfOthers(Dronegrade x) {
        for (int i = 0; i < 8; i++) {
            x.piper(i, 20, i);
            x.band(1);
        }
        x.contest(1);
        for (int i = 0; i < 32; i++) {
            x.mark(i % 4, i / 4, 50 + i / 4);
        }
    }

    /** Between two contests: of the bands 0 and 1 of grade 4, 1 has won one; 2 is alone in grade 5. */
    private static void betweenContests(Dronegrade x) {
        x.band(4);
        x.band(4);
        x.band(5);
        x.contest(4);
        for (int judge = 0; judge < 4; judge++) {
            x.mark(judge, 0, 70);
            x.mark(judge, 1, 71);
        }
        x.close();
    }

    private static void tune() {
        for (int kind : new int[] {Integer.MIN_VALUE, -1, 4, Integer.MAX_VALUE}) {
            refused(BAD, "kind " + kind, RefusedCallsTest::begun, x -> x.tune(kind));
            refused(BAD, "kind " + kind + " and 10 tunes", RefusedCallsTest::fullOfTunes, x -> x.tune(kind));
        }
        refused(STATE, "10 tunes", RefusedCallsTest::fullOfTunes, x -> x.tune(Dronegrade.JIG));
    }

    private static void note() {
        refused(NO_SUCH, "note, no tunes", RefusedCallsTest::fullOfOthers, x -> x.note(0, 0, 1, 0));
        for (int tune : new int[] {Integer.MIN_VALUE, -1, 3, Integer.MAX_VALUE}) {
            refused(NO_SUCH, "note in tune " + tune, RefusedCallsTest::begun, x -> x.note(tune, 0, 1, 0));
            refused(NO_SUCH, "note in tune " + tune + ", height 9", RefusedCallsTest::begun, x -> x.note(tune, 9, 1, 0));
            refused(NO_SUCH, "note in tune " + tune + ", length 0", RefusedCallsTest::begun, x -> x.note(tune, 0, 0, 0));
            refused(NO_SUCH, "note in tune " + tune + ", grace 9", RefusedCallsTest::begun, x -> x.note(tune, 0, 1, 9));
            refused(NO_SUCH, "note in tune " + tune + ", not lawful", RefusedCallsTest::begun, x -> x.note(tune, 8, 1, 1));
        }
        for (int wrong : new int[] {Integer.MIN_VALUE, -1, 9, Integer.MAX_VALUE}) {
            refused(BAD, "height " + wrong, RefusedCallsTest::begun, x -> x.note(0, wrong, 1, 0));
            refused(BAD, "grace " + wrong, RefusedCallsTest::begun, x -> x.note(0, 0, 1, wrong));
        }
        for (int wrong : new int[] {Integer.MIN_VALUE, -1, 0, 17, Integer.MAX_VALUE}) {
            refused(BAD, "length " + wrong, RefusedCallsTest::begun, x -> x.note(0, 0, wrong, 0));
        }
    }

    private static void noteNotLawful() {
        refused(STATE, "D on its own height", RefusedCallsTest::begun, x -> x.note(0, 4, 1, Dronegrade.D));
        refused(STATE, "plain behind its own height", RefusedCallsTest::begun, x -> x.note(0, 4, 1, Dronegrade.PLAIN));
        refused(STATE, "the same behind a part", RefusedCallsTest::begun, x -> x.note(1, 2, 1, Dronegrade.PLAIN));
        refused(STATE, "a birl, and first of a tune", RefusedCallsTest::begun, x -> x.note(2, 0, 1, Dronegrade.BIRL));
        refused(BAD, "not lawful, length 17", RefusedCallsTest::begun, x -> x.note(0, 4, 17, Dronegrade.D));
        refused(BAD, "a throw on 9", RefusedCallsTest::begun, x -> x.note(0, 9, 1, Dronegrade.THROW));
        refused(STATE, "not lawful, over the end", RefusedCallsTest::begun, x -> x.note(0, 4, 4, Dronegrade.D));
    }

    private static void noteOverTheEndOfTheBar() {
        refused(STATE, "4 where 3 are left", RefusedCallsTest::begun, x -> x.note(0, 0, 4, Dronegrade.PLAIN));
        refused(STATE, "16 where 3 are left", RefusedCallsTest::begun, x -> x.note(0, 0, 16, Dronegrade.PLAIN));
        refused(STATE, "7 in a jig", RefusedCallsTest::begun, x -> x.note(1, 0, 7, Dronegrade.PLAIN));
        refused(BAD, "over the end, height 9", RefusedCallsTest::begun, x -> x.note(0, 9, 4, Dronegrade.PLAIN));
        refused(BAD, "over the end, grace -1", RefusedCallsTest::begun, x -> x.note(0, 0, 4, -1));
        refused(NO_SUCH, "over the end of no tune", RefusedCallsTest::begun, x -> x.note(3, 0, 16, Dronegrade.PLAIN));
    }

    private static void noteBehindAllNotes() {
        refused(STATE, "note 65 behind a part", RefusedCallsTest::fullOfTunes, x -> x.note(1, 0, 1, Dronegrade.D));
        refused(STATE, "note 65 of open ones", RefusedCallsTest::fullOfTunes, x -> x.note(2, 0, 1, Dronegrade.D));
        refused(BAD, "note 65, height -1", RefusedCallsTest::fullOfTunes, x -> x.note(1, -1, 1, Dronegrade.D));
        refused(BAD, "note 65, length 0", RefusedCallsTest::fullOfTunes, x -> x.note(1, 0, 0, Dronegrade.D));
        refused(BAD, "note 65, grace 9", RefusedCallsTest::fullOfTunes, x -> x.note(2, 0, 1, 9));
        refused(NO_SUCH, "a note in tune 10", RefusedCallsTest::fullOfTunes, x -> x.note(10, 0, 1, Dronegrade.D));
    }

    private static void part() {
        refused(NO_SUCH, "part, no tunes", RefusedCallsTest::fullOfOthers, x -> x.part(0, true));
        for (int tune : new int[] {Integer.MIN_VALUE, -1, 3, Integer.MAX_VALUE}) {
            refused(NO_SUCH, "part of tune " + tune, RefusedCallsTest::begun, x -> x.part(tune, true));
        }
        refused(STATE, "no whole bars", RefusedCallsTest::begun, x -> x.part(0, true));
        refused(STATE, "nothing open behind a part", RefusedCallsTest::begun, x -> x.part(1, true));
        refused(STATE, "nothing written", RefusedCallsTest::begun, x -> x.part(2, false));
    }

    private static void partBehindAllParts() {
        refused(STATE, "part 9", RefusedCallsTest::fullOfTunes, x -> x.part(0, true));
        refused(STATE, "nothing open behind 64 notes", RefusedCallsTest::fullOfTunes, x -> x.part(1, true));
        refused(NO_SUCH, "part of tune 10", RefusedCallsTest::fullOfTunes, x -> x.part(10, false));
    }

    private static void playedAndOfTune() {
        for (int tune : new int[] {Integer.MIN_VALUE, -1, 3, Integer.MAX_VALUE}) {
            refused(NO_SUCH, "played of tune " + tune, RefusedCallsTest::begun, x -> x.played(tune, 0, 0));
            refused(NO_SUCH, "played of tune " + tune + ", what 5", RefusedCallsTest::begun, x -> x.played(tune, 0, 5));
            refused(NO_SUCH, "ofTune of tune " + tune, RefusedCallsTest::begun, x -> x.ofTune(tune, 0));
            refused(NO_SUCH, "ofTune of tune " + tune + ", what 7", RefusedCallsTest::begun, x -> x.ofTune(tune, 7));
        }
        for (int place : new int[] {Integer.MIN_VALUE, -1, 4, Integer.MAX_VALUE}) {
            refused(NO_SUCH, "place " + place, RefusedCallsTest::begun, x -> x.played(0, place, 0));
            refused(NO_SUCH, "place " + place + ", what -1", RefusedCallsTest::begun, x -> x.played(0, place, -1));
        }
        refused(NO_SUCH, "nothing is played, what 5", RefusedCallsTest::begun, x -> x.played(2, 0, 5));
        for (int what : new int[] {Integer.MIN_VALUE, -1, 5, Integer.MAX_VALUE}) {
            refused(BAD, "played what " + what, RefusedCallsTest::begun, x -> x.played(0, 0, what));
        }
        for (int what : new int[] {Integer.MIN_VALUE, -1, 7, Integer.MAX_VALUE}) {
            refused(BAD, "ofTune what " + what, RefusedCallsTest::begun, x -> x.ofTune(0, what));
        }
    }

    private static void alike() {
        for (int tune : new int[] {Integer.MIN_VALUE, -1, 3, Integer.MAX_VALUE}) {
            refused(NO_SUCH, "alike of tune " + tune, RefusedCallsTest::begun, x -> x.alike(tune, 0));
            refused(NO_SUCH, "alike to tune " + tune, RefusedCallsTest::begun, x -> x.alike(0, tune));
            refused(NO_SUCH, "alike of tune " + tune + " twice", RefusedCallsTest::begun, x -> x.alike(tune, tune));
            refused(NO_SUCH, "alikeAnew of tune " + tune, RefusedCallsTest::begun, x -> x.alikeAnew(tune, 0));
            refused(NO_SUCH, "alikeAnew to tune " + tune, RefusedCallsTest::begun, x -> x.alikeAnew(0, tune));
            refused(NO_SUCH, "alikeAnew of tune " + tune + " twice", RefusedCallsTest::begun, x -> x.alikeAnew(tune, tune));
        }
        refused(NO_SUCH, "alike to tune 3, of one of which nothing is played", RefusedCallsTest::begun, x -> x.alike(2, 3));
        refused(NO_SUCH, "alikeAnew to tune 3, of one of which nothing is played", RefusedCallsTest::begun,
            x -> x.alikeAnew(2, 3));
    }

    private static void follow() {
        refused(NO_SUCH, "follow, no tunes", RefusedCallsTest::fullOfOthers, x -> x.follow(0, 80));
        for (int tune : new int[] {Integer.MIN_VALUE, -1, 3, Integer.MAX_VALUE}) {
            refused(NO_SUCH, "tune " + tune + " follows", RefusedCallsTest::begun, x -> x.follow(tune, 80));
            refused(NO_SUCH, "tune " + tune + " follows with tempo 29", RefusedCallsTest::begun, x -> x.follow(tune, 29));
        }
        for (int tempo : new int[] {Integer.MIN_VALUE, -1, 0, 29, 601, Integer.MAX_VALUE}) {
            refused(BAD, "tempo " + tempo, RefusedCallsTest::begun, x -> x.follow(0, tempo));
            refused(BAD, "tempo " + tempo + ", and nothing is played", RefusedCallsTest::begun, x -> x.follow(2, tempo));
            refused(BAD, "tempo " + tempo + ", and the same height", RefusedCallsTest::begun, x -> x.follow(1, tempo));
        }
        refused(STATE, "nothing is played", RefusedCallsTest::begun, x -> x.follow(2, 80));
        refused(STATE, "plain, with the height of the last one", RefusedCallsTest::begun, x -> x.follow(1, 80));
        refused(STATE, "that, and slower", RefusedCallsTest::begun, x -> x.follow(1, 59));
    }

    private static void followBehindAllTunes() {
        refused(STATE, "tune 9 of the set", RefusedCallsTest::fullOfTunes, x -> x.follow(0, 90));
        refused(STATE, "tune 9 of the set, of which nothing is played", RefusedCallsTest::fullOfTunes, x -> x.follow(3, 90));
        refused(STATE, "tune 9 of the set, slower", RefusedCallsTest::fullOfTunes, x -> x.follow(0, 89));
        for (int tempo : new int[] {29, 601}) {
            refused(BAD, "tune 9 of the set, tempo " + tempo, RefusedCallsTest::fullOfTunes, x -> x.follow(0, tempo));
        }
        for (int tune : new int[] {-1, 10}) {
            refused(NO_SUCH, "tune 9 of the set, tune " + tune, RefusedCallsTest::fullOfTunes, x -> x.follow(tune, 29));
        }
    }

    private static void dropOfNothing() {
        refused(STATE, "drop on a new object", x -> { }, x -> x.drop());
        refused(STATE, "drop where nothing is left", x -> {
            begun(x);
            x.drop();
            x.drop();
        }, x -> x.drop());
    }

    private static void piper() {
        for (int wrong : new int[] {Integer.MIN_VALUE, -101, 101, Integer.MAX_VALUE}) {
            refused(BAD, "reed " + wrong, RefusedCallsTest::begun, x -> x.piper(wrong, 20, 3));
            refused(BAD, "reed " + wrong + ", and 8 pipers", RefusedCallsTest::fullOfOthers, x -> x.piper(wrong, 20, 3));
        }
        for (int wrong : new int[] {Integer.MIN_VALUE, 9, 41, Integer.MAX_VALUE}) {
            refused(BAD, "pressure " + wrong, RefusedCallsTest::begun, x -> x.piper(0, wrong, 3));
            refused(BAD, "pressure " + wrong + ", and 8 pipers", RefusedCallsTest::fullOfOthers, x -> x.piper(0, wrong, 3));
        }
        for (int wrong : new int[] {Integer.MIN_VALUE, -1, 10, Integer.MAX_VALUE}) {
            refused(BAD, "breath " + wrong, RefusedCallsTest::begun, x -> x.piper(0, 20, wrong));
            refused(BAD, "breath " + wrong + ", and 8 pipers", RefusedCallsTest::fullOfOthers, x -> x.piper(0, 20, wrong));
        }
        refused(STATE, "piper 9", RefusedCallsTest::fullOfOthers, x -> x.piper(0, 20, 3));
    }

    private static void seat() {
        for (int piper : new int[] {Integer.MIN_VALUE, -1, 3, Integer.MAX_VALUE}) {
            refused(NO_SUCH, "seat of piper " + piper, RefusedCallsTest::begun, x -> x.seat(piper, 1));
            refused(NO_SUCH, "seat of piper " + piper + " by 101", RefusedCallsTest::begun, x -> x.seat(piper, 101));
        }
        for (int by : new int[] {Integer.MIN_VALUE, -191, -101, 11, 100, 101, Integer.MAX_VALUE}) {
            refused(BAD, "seat 90 by " + by, RefusedCallsTest::begun, x -> x.seat(0, by));
        }
        for (int by : new int[] {Integer.MIN_VALUE, -101, -100, -6, 101, 195, Integer.MAX_VALUE}) {
            refused(BAD, "seat -95 by " + by, RefusedCallsTest::begun, x -> x.seat(2, by));
        }
    }

    private static void rest() {
        for (int piper : new int[] {Integer.MIN_VALUE, -1, 3, Integer.MAX_VALUE}) {
            refused(NO_SUCH, "rest of piper " + piper, RefusedCallsTest::begun, x -> x.rest(piper, true));
            refused(NO_SUCH, "no rest of piper " + piper, RefusedCallsTest::begun, x -> x.rest(piper, false));
        }
        refused(NO_SUCH, "rest of piper 8", RefusedCallsTest::fullOfOthers, x -> x.rest(8, true));
    }

    private static void playAndAhead() {
        int[][] weathers = {{0, 0, 0}, {121, 9, 40}, {-1, 5, 5}, {1, -1, 0}, {120, 10, 40}, {1, 0, -1}, {120, 9, 41},
            {0, 10, 41}, {121, -1, -1}};
        for (int[] weather : weathers) {
            refusedWeather(weather[0], weather[1], weather[2]);
        }
        for (int end : ENDS) {
            refusedWeather(end, 1, 1);
            refusedWeather(1, end, 1);
            refusedWeather(1, 1, end);
        }
    }

    private static void refusedWeather(int minutes, int rain, int heat) {
        String weather = "(" + minutes + ", " + rain + ", " + heat + ")";
        refused(BAD, "play" + weather, RefusedCallsTest::begun, x -> x.play(minutes, rain, heat));
        refused(BAD, "ahead" + weather, RefusedCallsTest::begun, x -> x.ahead(minutes, rain, heat));
        refused(BAD, "without pipers, play" + weather, x -> { }, x -> x.play(minutes, rain, heat));
        refused(BAD, "without pipers, ahead" + weather, x -> { }, x -> x.ahead(minutes, rain, heat));
    }

    private static void ofPiperAndBeats() {
        for (int piper : new int[] {Integer.MIN_VALUE, -1, 3, Integer.MAX_VALUE}) {
            refused(NO_SUCH, "ofPiper of piper " + piper, RefusedCallsTest::begun, x -> x.ofPiper(piper, 0));
            refused(NO_SUCH, "ofPiper of piper " + piper + ", what 6", RefusedCallsTest::begun, x -> x.ofPiper(piper, 6));
            refused(NO_SUCH, "beats of piper " + piper, RefusedCallsTest::begun, x -> x.beats(piper, 0));
            refused(NO_SUCH, "beats to piper " + piper, RefusedCallsTest::begun, x -> x.beats(0, piper));
            refused(NO_SUCH, "beats of piper " + piper + " twice", RefusedCallsTest::begun, x -> x.beats(piper, piper));
        }
        for (int what : new int[] {Integer.MIN_VALUE, -1, 6, Integer.MAX_VALUE}) {
            refused(BAD, "ofPiper what " + what, RefusedCallsTest::begun, x -> x.ofPiper(0, what));
        }
    }

    private static void band() {
        for (int grade : new int[] {Integer.MIN_VALUE, -1, 0, 6, Integer.MAX_VALUE}) {
            refused(BAD, "band of grade " + grade, RefusedCallsTest::begun, x -> x.band(grade));
            refused(BAD, "band 9 of grade " + grade, RefusedCallsTest::fullOfOthers, x -> x.band(grade));
        }
        for (int grade = 1; grade <= 5; grade++) {
            int of = grade;
            refused(STATE, "band 9, of grade " + of, RefusedCallsTest::fullOfOthers, x -> x.band(of));
        }
    }

    private static void contest() {
        for (int grade : new int[] {Integer.MIN_VALUE, -1, 0, 6, Integer.MAX_VALUE}) {
            refused(BAD, "contest of grade " + grade, RefusedCallsTest::betweenContests, x -> x.contest(grade));
            refused(BAD, "that, and one is open", RefusedCallsTest::begun, x -> x.contest(grade));
        }
        refused(STATE, "one of the same grade is open", RefusedCallsTest::begun, x -> x.contest(2));
        refused(STATE, "one is open, and one band has the grade", RefusedCallsTest::begun, x -> x.contest(3));
        refused(STATE, "one is open, and all marks are there", RefusedCallsTest::fullOfOthers, x -> x.contest(1));
        refused(STATE, "one band has the grade", RefusedCallsTest::betweenContests, x -> x.contest(5));
        refused(STATE, "no band has the grade", RefusedCallsTest::betweenContests, x -> x.contest(1));
        refused(STATE, "one of another grade, of two bands, is open", x -> {
            begun(x);
            x.band(3);
        }, x -> x.contest(3));
    }

    private static void mark() {
        for (int judge : new int[] {Integer.MIN_VALUE, -1, 4, Integer.MAX_VALUE}) {
            refused(NO_SUCH, "judge " + judge, RefusedCallsTest::begun, x -> x.mark(judge, 1, 50));
            refused(NO_SUCH, "judge " + judge + ", mark 101", RefusedCallsTest::begun, x -> x.mark(judge, 1, 101));
            refused(NO_SUCH, "judge " + judge + ", no contest", RefusedCallsTest::betweenContests, x -> x.mark(judge, 1, 50));
            refused(NO_SUCH, "judge " + judge + ", no part", RefusedCallsTest::begun, x -> x.mark(judge, 2, -1));
        }
        for (int band : new int[] {Integer.MIN_VALUE, -1, 5, Integer.MAX_VALUE}) {
            refused(NO_SUCH, "band " + band, RefusedCallsTest::begun, x -> x.mark(0, band, 50));
            refused(NO_SUCH, "band " + band + ", mark -1", RefusedCallsTest::begun, x -> x.mark(0, band, -1));
            refused(NO_SUCH, "band " + band + ", no contest", RefusedCallsTest::betweenContests, x -> x.mark(0, band, 50));
        }
        for (int mark : new int[] {Integer.MIN_VALUE, -1, 101, Integer.MAX_VALUE}) {
            refused(BAD, "mark " + mark, RefusedCallsTest::begun, x -> x.mark(0, 1, mark));
            refused(BAD, "mark " + mark + ", no contest", RefusedCallsTest::betweenContests, x -> x.mark(0, 1, mark));
            refused(BAD, "mark " + mark + ", no part", RefusedCallsTest::begun, x -> x.mark(0, 2, mark));
            refused(BAD, "mark " + mark + ", there already", RefusedCallsTest::begun, x -> x.mark(0, 0, mark));
        }
        refused(STATE, "no contest", RefusedCallsTest::betweenContests, x -> x.mark(0, 1, 50));
        refused(STATE, "a band of another grade", RefusedCallsTest::begun, x -> x.mark(0, 2, 50));
        refused(STATE, "a band that came too late", RefusedCallsTest::begun, x -> x.mark(0, 4, 50));
        refused(STATE, "there already, by 0", RefusedCallsTest::begun, x -> x.mark(0, 0, 0));
        refused(STATE, "there already, by 3, and 0", RefusedCallsTest::begun, x -> x.mark(3, 1, 100));
        refused(STATE, "there already, and the same", RefusedCallsTest::begun, x -> x.mark(3, 1, 0));
        refused(STATE, "all are there, a higher one", RefusedCallsTest::fullOfOthers, x -> x.mark(3, 0, 100));
        refused(STATE, "all are there, a lower one", RefusedCallsTest::fullOfOthers, x -> x.mark(0, 7, 0));
    }

    private static void close() {
        refused(STATE, "close on a new object", x -> { }, x -> x.close());
        refused(STATE, "close between contests", RefusedCallsTest::betweenContests, x -> x.close());
        refused(STATE, "marks are missing", RefusedCallsTest::begun, x -> x.close());
        for (int i = 0; i < 12; i++) {
            int missing = i;
            refused(STATE, "the mark " + missing + " is missing", x -> oneMarkMissing(x, missing), x -> x.close());
        }
    }

    private static void oneMarkMissing(Dronegrade x, int missing) {
        for (int i = 0; i < 3; i++) {
            x.band(4);
        }
        x.contest(4);
        for (int i = 0; i < 12; i++) {
            if (i != missing) {
                x.mark(i % 4, i / 4, 40 + i);
            }
        }
    }

    private static void season() {
        refused(STATE, "a contest is open", RefusedCallsTest::begun, x -> x.season());
        refused(STATE, "a contest is open, and all marks are there", RefusedCallsTest::fullOfOthers, x -> x.season());
        refused(STATE, "the second contest is open, and bands have points", x -> {
            betweenContests(x);
            x.contest(4);
        }, x -> x.season());
    }

    private static void ofBand() {
        for (int band : new int[] {Integer.MIN_VALUE, -1, 3, Integer.MAX_VALUE}) {
            refused(NO_SUCH, "ofBand of band " + band, RefusedCallsTest::betweenContests, x -> x.ofBand(band, 0));
            refused(NO_SUCH, "ofBand of band " + band + ", what 5", RefusedCallsTest::betweenContests, x -> x.ofBand(band, 5));
        }
        for (int what : new int[] {Integer.MIN_VALUE, -1, 5, Integer.MAX_VALUE}) {
            refused(BAD, "ofBand what " + what, RefusedCallsTest::betweenContests, x -> x.ofBand(0, what));
        }
    }
}
