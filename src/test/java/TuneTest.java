/** Promises 1 to 8: a new object, and tunes. */
public final class TuneTest {
    private static final Class<IndexOutOfBoundsException> NO_SUCH = IndexOutOfBoundsException.class;
    private static final Class<IllegalArgumentException> BAD = IllegalArgumentException.class;
    private static final Class<IllegalStateException> STATE = IllegalStateException.class;
    private static final Check CHECK = new Check("TuneTest");

    public static void main(String[] args) {
        promise1NewObject();
        promise2Tune();
        promise3Graces();
        promise3Bars();
        promise3WrongInputs();
        promise4Part();
        promise5Played();
        promise6OfTune();
        promise6Clashes();
        promises7And8Alike();
        promises7And8LongTunes();
        CHECK.finish();
    }

    private static void promise1NewObject() {
        Dronegrade x = new Dronegrade();
        CHECK.refuses(NO_SUCH, "new: ofTune(0, 0)", () -> x.ofTune(0, 0));
        CHECK.refuses(NO_SUCH, "new: ofPiper(0, 0)", () -> x.ofPiper(0, 0));
        CHECK.refuses(NO_SUCH, "new: ofBand(0, 0)", () -> x.ofBand(0, 0));
        CHECK.refuses(STATE, "new: drop()", () -> x.drop());
        CHECK.answers(0L, "new: time()", () -> x.time());
        CHECK.answers(0, "new: spread()", () -> x.spread());
        CHECK.answers(-1, "new: odd()", () -> x.odd());
        CHECK.answers(0, "new: ahead(1, 0, 0)", () -> x.ahead(1, 0, 0));
        CHECK.answers(0, "new: play(1, 0, 0)", () -> x.play(1, 0, 0));
        CHECK.refuses(STATE, "new: close()", () -> x.close());
        CHECK.answers(0, "new: season() is not hindered by a contest", () -> x.season());
        Dronegrade other = new Dronegrade();
        x.tune(Dronegrade.REEL);
        CHECK.refuses(NO_SUCH, "objects share no tunes", () -> other.ofTune(0, 0));
    }

    private static void promise2Tune() {
        Dronegrade x = new Dronegrade();
        for (int wrong : new int[] {Integer.MIN_VALUE, -1, 4, Integer.MAX_VALUE}) {
            CHECK.refuses(BAD, "tune(" + wrong + ")", () -> x.tune(wrong));
        }
        for (int i = 0; i < 10; i++) {
            int kind = i % 4;
            CHECK.answers(i, "tune " + i, () -> x.tune(kind));
        }
        CHECK.refuses(STATE, "eleventh tune", () -> x.tune(0));
        CHECK.refuses(BAD, "eleventh tune of no kind", () -> x.tune(4));
        for (int i = 0; i < 10; i++) {
            int tune = i;
            CHECK.answers(i % 4, "kind of tune " + i, () -> x.ofTune(tune, 0));
        }
        CHECK.refuses(NO_SUCH, "the refused tune is not there", () -> x.ofTune(10, 0));
    }

    /** Row by grace, column by height; PLAIN is always lawful for the first note. */
    private static final String[] LAWFUL = {
        "yyyyyyyyy", "yyyynnnnn", "yyyyynnnn", "yyyyyyynn", "yyyyyyyyn",
        "yyyyyyynn", "nyyyyyyyy", "nnnnynnnn", "nynnnnnnn",
    };

    private static void promise3Graces() {
        for (int grace = 0; grace <= 8; grace++) {
            for (int height = 0; height <= 8; height++) {
                Dronegrade x = new Dronegrade();
                x.tune(Dronegrade.MARCH);
                int ofGrace = grace;
                int ofHeight = height;
                String what = "note of height " + height + " with grace " + grace;
                if (LAWFUL[grace].charAt(height) == 'y') {
                    CHECK.answers(1, what, () -> x.note(0, ofHeight, 1, ofGrace));
                } else {
                    CHECK.refuses(STATE, what, () -> x.note(0, ofHeight, 1, ofGrace));
                    CHECK.answers(0, what + " is not written", () -> x.ofTune(0, 6));
                }
            }
        }
        Dronegrade x = new Dronegrade();
        x.tune(Dronegrade.MARCH);
        x.tune(Dronegrade.MARCH);
        x.note(0, 3, 4, Dronegrade.PLAIN);
        CHECK.refuses(STATE, "plain right behind the same height", () -> x.note(0, 3, 4, Dronegrade.PLAIN));
        CHECK.answers(1, "plain, the same height in another tune", () -> x.note(1, 3, 4, Dronegrade.PLAIN));
        CHECK.answers(2, "graced right behind the same height", () -> x.note(0, 3, 4, Dronegrade.D));
        CHECK.refuses(STATE, "plain right behind a graced one of the same height", () -> x.note(0, 3, 8, Dronegrade.PLAIN));
        x.part(0, false);
        CHECK.refuses(STATE, "plain behind the end of a part, the same height", () -> x.note(0, 3, 8, Dronegrade.PLAIN));
        CHECK.answers(3, "plain behind the end of a part, another height", () -> x.note(0, 4, 8, Dronegrade.PLAIN));
        CHECK.answers(4, "plain with another height between", () -> x.note(0, 3, 8, Dronegrade.PLAIN));
    }

    private static void promise3Bars() {
        int[] bars = {8, 16, 8, 6};
        for (int kind = 0; kind < 4; kind++) {
            int bar = bars[kind];
            Dronegrade x = new Dronegrade();
            x.tune(kind);
            if (bar < 16) {
                CHECK.refuses(STATE, "longer than a bar, kind " + kind, () -> x.note(0, 0, bar + 1, 1));
            }
            CHECK.answers(1, "a whole bar, kind " + kind, () -> x.note(0, 0, bar, 1));
            CHECK.answers(2, "next bar, kind " + kind, () -> x.note(0, 0, bar - 2, 1));
            CHECK.refuses(STATE, "over the end of the bar, kind " + kind, () -> x.note(0, 0, 3, 1));
            CHECK.answers(3, "up to the end of the bar, kind " + kind, () -> x.note(0, 0, 2, 1));
            CHECK.answers(4, "a new bar begins, kind " + kind, () -> x.note(0, 0, bar, 1));
            CHECK.answers(3, "bars, kind " + kind, () -> x.part(0, false));
            CHECK.answers(5, "a bar behind a part, kind " + kind, () -> x.note(0, 0, bar - 1, 1));
            CHECK.refuses(STATE, "over the end behind a part, kind " + kind, () -> x.note(0, 0, 2, 1));
        }
    }

    private static void promise3WrongInputs() {
        Dronegrade x = new Dronegrade();
        CHECK.refuses(NO_SUCH, "note in no tune", () -> x.note(0, 0, 1, 0));
        x.tune(Dronegrade.MARCH);
        for (int wrong : new int[] {Integer.MIN_VALUE, -1, 1, Integer.MAX_VALUE}) {
            CHECK.refuses(NO_SUCH, "note in tune " + wrong, () -> x.note(wrong, 0, 1, 0));
            CHECK.refuses(NO_SUCH, "all wrong, tune " + wrong, () -> x.note(wrong, 9, 17, 9));
        }
        for (int wrong : new int[] {Integer.MIN_VALUE, -1, 9, Integer.MAX_VALUE}) {
            CHECK.refuses(BAD, "height " + wrong, () -> x.note(0, wrong, 1, 0));
            CHECK.refuses(BAD, "grace " + wrong, () -> x.note(0, 0, 1, wrong));
        }
        for (int wrong : new int[] {Integer.MIN_VALUE, -1, 0, 17, Integer.MAX_VALUE}) {
            CHECK.refuses(BAD, "length " + wrong, () -> x.note(0, 0, wrong, 0));
            CHECK.refuses(BAD, "length " + wrong + ", and not lawful", () -> x.note(0, 8, wrong, 1));
        }
        CHECK.answers(0, "nothing was written", () -> x.ofTune(0, 6));
        for (int i = 1; i <= 64; i++) {
            CHECK.answers(i, "note " + i, () -> x.note(0, 0, 1, Dronegrade.D));
        }
        CHECK.refuses(STATE, "note 65", () -> x.note(0, 0, 1, Dronegrade.D));
        CHECK.refuses(BAD, "note 65, of no height", () -> x.note(0, 9, 1, Dronegrade.D));
        CHECK.answers(8, "64 notes fill 8 bars", () -> x.part(0, true));
        CHECK.refuses(STATE, "note 65 behind the part", () -> x.note(0, 0, 1, Dronegrade.D));
        CHECK.answers(128, "64 notes twice", () -> x.ofTune(0, 1));
        CHECK.answers(127, "units ahead of the last", () -> x.played(0, 127, 3));
        CHECK.refuses(NO_SUCH, "place 128", () -> x.played(0, 128, 0));
    }

    private static void promise4Part() {
        Dronegrade x = new Dronegrade();
        CHECK.refuses(NO_SUCH, "part of no tune", () -> x.part(0, false));
        x.tune(Dronegrade.JIG);
        CHECK.refuses(NO_SUCH, "part of tune -1", () -> x.part(-1, false));
        CHECK.refuses(NO_SUCH, "part of tune 1", () -> x.part(1, true));
        CHECK.refuses(STATE, "part of no notes", () -> x.part(0, false));
        x.note(0, 0, 6, 0);
        x.note(0, 1, 5, 0);
        CHECK.refuses(STATE, "part of no whole bars", () -> x.part(0, false));
        CHECK.answers(2, "the notes stay open", () -> x.ofTune(0, 6));
        x.note(0, 2, 1, 0);
        CHECK.answers(2, "a repeated part's bars are as it is written", () -> x.part(0, true));
        CHECK.answers(0, "no open notes behind a part", () -> x.ofTune(0, 6));
        CHECK.answers(24, "played twice", () -> x.ofTune(0, 2));
        CHECK.refuses(STATE, "the same part again", () -> x.part(0, true));
        for (int i = 2; i <= 8; i++) {
            x.note(0, i % 2, 6, 0);
            CHECK.answers(1, "part " + i, () -> x.part(0, false));
        }
        CHECK.answers(11, "notes behind 8 parts can be written", () -> x.note(0, 8, 6, 0));
        CHECK.refuses(STATE, "ninth part", () -> x.part(0, false));
        CHECK.answers(8, "parts", () -> x.ofTune(0, 5));
        CHECK.answers(1, "open", () -> x.ofTune(0, 6));
    }

    /** A march: part 0, twice: E on 1 (4), plain 6 (4); part 1, once: throw on 4 (8), birl on 1 (8). */
    private static Dronegrade march() {
        Dronegrade x = new Dronegrade();
        x.tune(Dronegrade.MARCH);
        x.note(0, 1, 4, Dronegrade.E);
        x.note(0, 6, 4, Dronegrade.PLAIN);
        x.part(0, true);
        x.note(0, 4, 8, Dronegrade.THROW);
        x.note(0, 1, 8, Dronegrade.BIRL);
        x.part(0, false);
        x.note(0, 7, 8, Dronegrade.THUMB);
        return x;
    }

    private static void promise5Played() {
        Dronegrade x = march();
        int[][] due = {{1, 4, 2, 0, 0}, {6, 4, 0, 4, 0}, {1, 4, 2, 8, 0}, {6, 4, 0, 12, 0}, {4, 8, 7, 16, 1}, {1, 8, 8, 24, 1}};
        for (int place = 0; place < due.length; place++) {
            for (int what = 0; what < 5; what++) {
                int at = place;
                int asked = what;
                CHECK.answers(due[place][what], "played(0, " + place + ", " + what + ")", () -> x.played(0, at, asked));
            }
        }
        CHECK.refuses(NO_SUCH, "an open note is not played", () -> x.played(0, 6, 0));
        for (int wrong : new int[] {Integer.MIN_VALUE, -1, Integer.MAX_VALUE}) {
            CHECK.refuses(NO_SUCH, "place " + wrong, () -> x.played(0, wrong, 0));
            CHECK.refuses(NO_SUCH, "tune " + wrong, () -> x.played(wrong, 0, 0));
        }
        CHECK.refuses(NO_SUCH, "tune 1", () -> x.played(1, 0, 0));
        for (int wrong : new int[] {Integer.MIN_VALUE, -1, 5, Integer.MAX_VALUE}) {
            CHECK.refuses(BAD, "what " + wrong, () -> x.played(0, 0, wrong));
            CHECK.refuses(NO_SUCH, "what " + wrong + " and no such place", () -> x.played(0, 6, wrong));
            CHECK.refuses(NO_SUCH, "what " + wrong + " and no such tune", () -> x.played(1, 0, wrong));
        }
        x.tune(Dronegrade.JIG);
        CHECK.refuses(NO_SUCH, "nothing is played", () -> x.played(1, 0, 0));
    }

    private static void promise6OfTune() {
        Dronegrade x = march();
        int[] due = {0, 6, 32, 0, 9, 2, 1};
        for (int what = 0; what < due.length; what++) {
            int asked = what;
            CHECK.answers(due[what], "ofTune(0, " + what + ")", () -> x.ofTune(0, asked));
        }
        for (int wrong : new int[] {Integer.MIN_VALUE, -1, 7, Integer.MAX_VALUE}) {
            CHECK.refuses(BAD, "ofTune what " + wrong, () -> x.ofTune(0, wrong));
            CHECK.refuses(NO_SUCH, "ofTune what " + wrong + ", no such tune", () -> x.ofTune(1, wrong));
        }
        CHECK.refuses(NO_SUCH, "ofTune of -1", () -> x.ofTune(-1, 0));
        int[] heights = {0, 0, 0, 0, 0, 1, 1, 4, 1};
        int[] small = {0, 1, 1, 1, 1, 3, 3, 3, 4};
        for (int grace = 0; grace <= 8; grace++) {
            Dronegrade y = new Dronegrade();
            y.tune(Dronegrade.JIG);
            y.note(0, heights[grace], 6, grace);
            CHECK.answers(0, "open notes have no small ones yet", () -> y.ofTune(0, 4));
            y.part(0, true);
            CHECK.answers(2 * small[grace], "small notes of grace " + grace + ", twice", () -> y.ofTune(0, 4));
        }
        Dronegrade z = new Dronegrade();
        z.tune(Dronegrade.STRATHSPEY);
        int[] empty = {1, 0, 0, 0, 0, 0, 0};
        for (int what = 0; what < empty.length; what++) {
            int asked = what;
            CHECK.answers(empty[what], "ofTune(0, " + what + ") of an empty tune", () -> z.ofTune(0, asked));
        }
    }

    private static void promise6Clashes() {
        Dronegrade x = new Dronegrade();
        x.tune(Dronegrade.MARCH);
        x.note(0, 5, 8, Dronegrade.PLAIN);
        x.part(0, true);
        CHECK.answers(1, "one plain note, repeated, clashes with itself", () -> x.ofTune(0, 3));
        x.note(0, 5, 4, Dronegrade.HIGH);
        x.note(0, 3, 4, Dronegrade.PLAIN);
        x.part(0, true);
        CHECK.answers(1, "graced ones do not clash", () -> x.ofTune(0, 3));
        x.note(0, 2, 4, Dronegrade.PLAIN);
        x.note(0, 2, 4, Dronegrade.GRIP);
        x.part(0, true);
        CHECK.answers(2, "the first one behind the last one of the first time", () -> x.ofTune(0, 3));
        x.note(0, 7, 4, Dronegrade.PLAIN);
        x.note(0, 7, 4, Dronegrade.THUMB);
        x.part(0, false);
        CHECK.answers(2, "played once, it does not clash", () -> x.ofTune(0, 3));
    }

    private static int jigOf(Dronegrade x, String heights, boolean isRepeated) {
        int tune = x.tune(Dronegrade.JIG);
        for (int i = 0; i < heights.length(); i++) {
            int height = heights.charAt(i) - '0';
            x.note(tune, height, 6, height < 8 ? Dronegrade.THUMB : Dronegrade.PLAIN);
        }
        if (!heights.isEmpty()) {
            x.part(tune, isRepeated);
        }
        return tune;
    }

    private static void alike(Dronegrade x, int due, int one, int other) {
        CHECK.answers(due, "alike(" + one + ", " + other + ")", () -> x.alike(one, other));
        CHECK.answers(due, "alike(" + other + ", " + one + ")", () -> x.alike(other, one));
        CHECK.answers(due, "alikeAnew(" + one + ", " + other + ")", () -> x.alikeAnew(one, other));
        CHECK.answers(due, "alikeAnew(" + other + ", " + one + ")", () -> x.alikeAnew(other, one));
    }

    private static void promises7And8Alike() {
        Dronegrade x = new Dronegrade();
        int abc = jigOf(x, "01234", false);
        int within = jigOf(x, "7123412", false);
        int apart = jigOf(x, "565", false);
        int empty = jigOf(x, "", false);
        int turned = jigOf(x, "340", true);
        alike(x, 4, abc, within);
        alike(x, 0, abc, apart);
        alike(x, 5, abc, abc);
        alike(x, 0, abc, empty);
        alike(x, 0, empty, empty);
        alike(x, 2, abc, turned);
        alike(x, 6, turned, turned);
        int over = jigOf(x, "034", false);
        alike(x, 3, turned, over);
        x.note(apart, 0, 6, Dronegrade.D);
        x.note(apart, 1, 6, Dronegrade.D);
        x.note(apart, 2, 6, Dronegrade.D);
        alike(x, 0, abc, apart);
        x.part(apart, false);
        alike(x, 3, abc, apart);
        int kind = x.tune(Dronegrade.MARCH);
        x.note(kind, 1, 1, Dronegrade.BIRL);
        x.note(kind, 2, 3, Dronegrade.DOUBLING);
        x.note(kind, 3, 4, Dronegrade.PLAIN);
        x.part(kind, false);
        alike(x, 3, kind, abc);
        for (int wrong : new int[] {Integer.MIN_VALUE, -1, 8, Integer.MAX_VALUE}) {
            CHECK.refuses(NO_SUCH, "alike(" + wrong + ", 0)", () -> x.alike(wrong, 0));
            CHECK.refuses(NO_SUCH, "alike(0, " + wrong + ")", () -> x.alike(0, wrong));
            CHECK.refuses(NO_SUCH, "alikeAnew(" + wrong + ", 0)", () -> x.alikeAnew(wrong, 0));
            CHECK.refuses(NO_SUCH, "alikeAnew(0, " + wrong + ")", () -> x.alikeAnew(0, wrong));
        }
        Dronegrade y = new Dronegrade();
        jigOf(y, "00000", false);
        jigOf(y, "000", false);
        jigOf(y, "0001", false);
        jigOf(y, "1000", false);
        alike(y, 3, 0, 1);
        alike(y, 3, 2, 3);
        jigOf(y, "2012", false);
        jigOf(y, "3201", false);
        alike(y, 3, 4, 5);
        jigOf(y, "23", false);
        alike(y, 1, 5, 6);
        jigOf(y, "57", false);
        jigOf(y, "76", false);
        alike(y, 1, 7, 8);
    }

    private static void promises7And8LongTunes() {
        Dronegrade x = new Dronegrade();
        String row = "0".repeat(63);
        jigOf(x, row + "1", true);
        jigOf(x, row + "2", true);
        jigOf(x, "1" + row, true);
        alike(x, 63, 0, 1);
        alike(x, 127, 0, 2);
        alike(x, 128, 0, 0);
    }
}
