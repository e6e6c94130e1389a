import java.util.Arrays;

/** Boundary cases of tunes (promises 1 to 8), sentence by sentence of the document. */
public final class TuneEdgesTest {
    private static final Class<IndexOutOfBoundsException> NO_SUCH = IndexOutOfBoundsException.class;
    private static final Class<IllegalArgumentException> BAD = IllegalArgumentException.class;
    private static final Class<IllegalStateException> STATE = IllegalStateException.class;
    private static final int[] BARS = {8, 16, 8, 6};
    private static final Check CHECK = new Check("TuneEdgesTest");

    public static void main(String[] args) {
        newObject();
        kinds();
        tenTunes();
        numbersOfTunes();
        bars();
        heights();
        lengths();
        graces();
        sixtyFourNotes();
        notesWritten();
        eightParts();
        singleGraces();
        otherGraces();
        plainFirst();
        plainBehind();
        plainBehindParts();
        plainBehindRefused();
        openNotes();
        endsOfBars();
        barsBeginWithOpenNotes();
        partsOfWholeBars();
        barsAsWritten();
        playedPlaces();
        playedWhats();
        playedTwice();
        playedParts();
        playedUnitsAhead();
        ofTuneWhats();
        ofTuneEmptyAndFull();
        clashes();
        clashesOfOneNote();
        smallNotes();
        alikeNothing();
        alikeWhole();
        alikeHeightsAlone();
        alikeOneRightBehindTheOther();
        alikeEnds();
        alikeOpenNotes();
        CHECK.finish();
    }

    private static Dronegrade with(int... kinds) {
        Dronegrade x = new Dronegrade();
        for (int kind : kinds) {
            x.tune(kind);
        }
        return x;
    }

    private static void newObject() {
        CHECK.sentence("Begins without TUNES, PIPERS and BANDS; THE SET has no TUNES, and no CONTEST is open.");
        Dronegrade x = new Dronegrade();
        CHECK.refuses(NO_SUCH, "no tune", () -> x.ofTune(0, 0));
        CHECK.refuses(NO_SUCH, "no piper", () -> x.ofPiper(0, 0));
        CHECK.refuses(NO_SUCH, "no band", () -> x.ofBand(0, 0));
        CHECK.refuses(STATE, "nothing in the set", x::drop);
        CHECK.answers(0L, "no time", x::time);
        CHECK.refuses(STATE, "no contest to close", x::close);
        CHECK.answers(0, "no contest hinders a season", x::season);
        x.band(1);
        x.band(1);
        CHECK.refuses(STATE, "no contest to mark in", () -> x.mark(0, 0, 50));
        CHECK.answers(2, "no contest hinders a contest", () -> x.contest(1));
        CHECK.answers(0, "the first tune", () -> x.tune(0));
        CHECK.answers(0, "the first piper", () -> x.piper(0, 20, 0));
        Dronegrade other = new Dronegrade();
        CHECK.refuses(NO_SUCH, "another object has no tune", () -> other.ofTune(0, 0));
        CHECK.refuses(NO_SUCH, "another object has no piper", () -> other.ofPiper(0, 0));
        CHECK.refuses(NO_SUCH, "another object has no band", () -> other.ofBand(0, 0));
        CHECK.answers(0, "nor a contest", other::season);
    }

    private static void kinds() {
        CHECK.sentence("`kind`: MARCH to JIG");
        Dronegrade x = new Dronegrade();
        CHECK.refusesBeyond(BAD, 0, 3, "kind", x::tune);
        for (int kind = 0; kind <= 3; kind++) {
            int of = kind;
            CHECK.answers(kind, "tune of kind " + kind, () -> x.tune(of));
            CHECK.answers(kind, "kind " + kind, () -> x.ofTune(of, 0));
        }
        CHECK.refusesBeyond(BAD, 0, 3, "kind", x::tune);
        CHECK.answers(4, "the refused ones took no number", () -> x.tune(3));
    }

    private static void tenTunes() {
        CHECK.sentence("TUNES are numbered from 0, at most 10.");
        Dronegrade x = new Dronegrade();
        for (int number = 0; number < 10; number++) {
            int kind = 3 - number % 4;
            CHECK.answers(number, "tune " + number, () -> x.tune(kind));
        }
        for (int kind = 0; kind <= 3; kind++) {
            int of = kind;
            CHECK.refuses(STATE, "an eleventh tune of kind " + kind, () -> x.tune(of));
        }
        CHECK.answers(2, "kind of the tenth tune", () -> x.ofTune(9, 0));
        CHECK.refuses(NO_SUCH, "no eleventh tune is there", () -> x.ofTune(10, 0));
    }

    private static void numbersOfTunes() {
        CHECK.sentence("Throws `IndexOutOfBoundsException` if there is no such TUNE");
        for (int tunes : new int[] {0, 1, 9, 10}) {
            Dronegrade x = with(new int[tunes]);
            int last = tunes - 1;
            CHECK.refusesBeyond(NO_SUCH, 0, last, tunes + " tunes, note", tune -> x.note(tune, 0, 8, 0));
            CHECK.refusesBeyond(NO_SUCH, 0, last, tunes + " tunes, part", tune -> x.part(tune, false));
            CHECK.refusesBeyond(NO_SUCH, 0, last, tunes + " tunes, played", tune -> x.played(tune, 0, 0));
            CHECK.refusesBeyond(NO_SUCH, 0, last, tunes + " tunes, ofTune", tune -> x.ofTune(tune, 0));
            CHECK.refusesBeyond(NO_SUCH, 0, last, tunes + " tunes, follow", tune -> x.follow(tune, 60));
            if (tunes > 0) {
                CHECK.refusesBeyond(NO_SUCH, 0, last, tunes + " tunes, alike of", tune -> x.alike(tune, 0));
                CHECK.refusesBeyond(NO_SUCH, 0, last, tunes + " tunes, alike to", tune -> x.alike(0, tune));
                CHECK.refusesBeyond(NO_SUCH, 0, last, tunes + " tunes, alikeAnew of", tune -> x.alikeAnew(tune, 0));
                CHECK.refusesBeyond(NO_SUCH, 0, last, tunes + " tunes, alikeAnew to", tune -> x.alikeAnew(0, tune));
                CHECK.answers(1, "note in the last of " + tunes, () -> x.note(last, 0, 8, 0));
                CHECK.answers(1, "part of the last of " + tunes, () -> x.part(last, false));
                CHECK.answers(8, "played of the last of " + tunes, () -> x.played(last, 0, 1));
                CHECK.answers(1, "alike of the last of " + tunes, () -> x.alike(last, last));
                CHECK.answers(1, "alikeAnew of the last of " + tunes, () -> x.alikeAnew(last, last));
                CHECK.answers(1, "follow of the last of " + tunes, () -> x.follow(last, 60));
            }
        }
    }

    private static void bars() {
        CHECK.sentence("A TUNE has a kind, MARCH, STRATHSPEY, REEL or JIG, with BARS of 8, 16, 8 or 6 units, in this order.");
        for (int kind = 0; kind <= 3; kind++) {
            Dronegrade x = with(kind);
            for (int unit = 1; unit < BARS[kind]; unit++) {
                x.note(0, unit % 2, 1, Dronegrade.PLAIN);
                CHECK.refuses(STATE, unit + " units are no bar of kind " + kind, () -> x.part(0, false));
            }
            x.note(0, 8, 1, Dronegrade.PLAIN);
            CHECK.answers(1, "the unit that fills a bar of kind " + kind, () -> x.part(0, false));
            CHECK.answers(BARS[kind], "units of a bar of kind " + kind, () -> x.ofTune(0, 2));
        }
    }

    private static void heights() {
        CHECK.sentence("`height`: 0 to 8");
        Dronegrade x = with(Dronegrade.MARCH);
        CHECK.refusesBeyond(BAD, 0, 8, "height", height -> x.note(0, height, 1, Dronegrade.PLAIN));
        CHECK.answers(1, "height 8", () -> x.note(0, 8, 4, Dronegrade.PLAIN));
        CHECK.answers(2, "height 0", () -> x.note(0, 0, 4, Dronegrade.PLAIN));
        CHECK.refusesBeyond(BAD, 0, 8, "height", height -> x.note(0, height, 1, Dronegrade.GRIP));
        x.part(0, false);
        CHECK.answers(8, "height 8 is played", () -> x.played(0, 0, 0));
        CHECK.answers(0, "height 0 is played", () -> x.played(0, 1, 0));
    }

    private static void lengths() {
        CHECK.sentence("`length`: 1 to 16");
        Dronegrade x = with(Dronegrade.STRATHSPEY, Dronegrade.MARCH, Dronegrade.REEL, Dronegrade.JIG);
        for (int tune = 0; tune <= 3; tune++) {
            int in = tune;
            CHECK.refusesBeyond(BAD, 1, 16, "length", length -> x.note(in, 0, length, Dronegrade.PLAIN));
        }
        CHECK.answers(1, "length 16", () -> x.note(0, 0, 16, Dronegrade.PLAIN));
        for (int tune = 1; tune <= 3; tune++) {
            int in = tune;
            CHECK.refuses(STATE, "length 16 is in range, and over the end of the bar", () -> x.note(in, 0, 16, 0));
        }
        CHECK.answers(2, "length 1", () -> x.note(0, 1, 1, Dronegrade.PLAIN));
        CHECK.answers(3, "and 15 more", () -> x.note(0, 2, 15, Dronegrade.PLAIN));
        x.part(0, false);
        CHECK.answers(16, "length 16 is played", () -> x.played(0, 0, 1));
        CHECK.answers(1, "length 1 is played", () -> x.played(0, 1, 1));
        CHECK.answers(15, "length 15 is played", () -> x.played(0, 2, 1));
    }

    private static void graces() {
        CHECK.sentence("`grace`: PLAIN to BIRL");
        Dronegrade x = with(Dronegrade.MARCH);
        CHECK.refusesBeyond(BAD, 0, 8, "grace", grace -> x.note(0, 1, 1, grace));
        CHECK.answers(1, "BIRL", () -> x.note(0, 1, 4, Dronegrade.BIRL));
        CHECK.answers(2, "PLAIN", () -> x.note(0, 0, 4, Dronegrade.PLAIN));
        x.part(0, false);
        CHECK.answers(8, "BIRL is played", () -> x.played(0, 0, 2));
        CHECK.answers(0, "PLAIN is played", () -> x.played(0, 1, 2));
    }

    private static void sixtyFourNotes() {
        CHECK.sentence("It has written NOTES, at most 64");
        Dronegrade x = with(Dronegrade.MARCH, Dronegrade.MARCH);
        for (int i = 1; i <= 64; i++) {
            int count = i;
            CHECK.answers(count, "note " + count, () -> x.note(0, count % 2, 1, Dronegrade.PLAIN));
            if (i == 40) {
                x.part(0, false);
            }
        }
        for (int grace = 0; grace <= 6; grace++) {
            int of = grace;
            CHECK.refuses(STATE, "note 65, of grace " + of, () -> x.note(0, 3, 1, of));
        }
        CHECK.answers(24, "24 of the 64 are open", () -> x.ofTune(0, 6));
        CHECK.answers(3, "the open ones of the 64 can be a part", () -> x.part(0, true));
        CHECK.refuses(STATE, "note 65 behind the part", () -> x.note(0, 3, 1, Dronegrade.PLAIN));
        CHECK.answers(40 + 48, "all 64 are played, the latter ones twice", () -> x.ofTune(0, 1));
        CHECK.answers(1, "another tune has 64 of its own", () -> x.note(1, 3, 1, Dronegrade.PLAIN));
    }

    private static void notesWritten() {
        CHECK.sentence("Returns how many written NOTES the TUNE has then.");
        Dronegrade x = with(Dronegrade.JIG, Dronegrade.JIG);
        CHECK.answers(1, "the first", () -> x.note(0, 0, 6, Dronegrade.PLAIN));
        x.part(0, true);
        CHECK.answers(2, "those of parts count, once", () -> x.note(0, 1, 6, Dronegrade.PLAIN));
        CHECK.answers(1, "those of another tune do not", () -> x.note(1, 1, 6, Dronegrade.PLAIN));
        CHECK.refuses(STATE, "refused", () -> x.note(0, 1, 6, Dronegrade.PLAIN));
        CHECK.answers(3, "nor does a refused one", () -> x.note(0, 2, 6, Dronegrade.PLAIN));
    }

    private static void eightParts() {
        CHECK.sentence("Throws `IllegalStateException` if it cannot be ended, or there are 8");
        Dronegrade x = with(Dronegrade.REEL, Dronegrade.REEL);
        for (int i = 1; i <= 8; i++) {
            int part = i;
            x.note(0, i % 2, 8, Dronegrade.PLAIN);
            CHECK.answers(1, "part " + part, () -> x.part(0, part == 8));
            CHECK.answers(part, "parts", () -> x.ofTune(0, 5));
        }
        CHECK.answers(9, "a note behind 8 parts", () -> x.note(0, 5, 8, Dronegrade.PLAIN));
        CHECK.refuses(STATE, "a ninth part", () -> x.part(0, false));
        CHECK.refuses(STATE, "a ninth part, repeated", () -> x.part(0, true));
        CHECK.answers(8, "8 parts", () -> x.ofTune(0, 5));
        CHECK.answers(1, "the note stays open", () -> x.ofTune(0, 6));
        CHECK.answers(9, "and is not played", () -> x.ofTune(0, 1));
        CHECK.answers(10, "another note behind it", () -> x.note(0, 6, 8, Dronegrade.PLAIN));
        x.note(1, 0, 8, Dronegrade.PLAIN);
        CHECK.answers(1, "another tune has 8 of its own", () -> x.part(1, false));
    }

    /** The notes are lawful up to the height told, and not above it. */
    private static void lawfulUpTo(int grace, int height) {
        for (int i = 0; i <= 8; i++) {
            Dronegrade x = with(Dronegrade.MARCH);
            int of = i;
            String what = "grace " + grace + " of a note of the height " + i;
            if (i <= height) {
                CHECK.answers(1, what, () -> x.note(0, of, 1, grace));
            } else {
                CHECK.refuses(STATE, what, () -> x.note(0, of, 1, grace));
            }
        }
    }

    private static void singleGraces() {
        CHECK.sentence("A single GRACE is lawful if its height is above that of its NOTE");
        lawfulUpTo(Dronegrade.D, 3);
        lawfulUpTo(Dronegrade.E, 4);
        lawfulUpTo(Dronegrade.HIGH, 6);
        lawfulUpTo(Dronegrade.THUMB, 7);
    }

    private static void lawfulFromTo(int grace, int least, int greatest) {
        for (int i = 0; i <= 8; i++) {
            Dronegrade x = with(Dronegrade.MARCH);
            int of = i;
            String what = "grace " + grace + " of a note of the height " + i;
            if (i >= least && i <= greatest) {
                CHECK.answers(1, what, () -> x.note(0, of, 1, grace));
                CHECK.answers(2, what + ", behind the same", () -> x.note(0, of, 1, grace));
            } else {
                CHECK.refuses(STATE, what, () -> x.note(0, of, 1, grace));
            }
        }
    }

    private static void otherGraces() {
        CHECK.sentence("a DOUBLING of a NOTE of a height up to 6");
        lawfulFromTo(Dronegrade.DOUBLING, 0, 6);
        CHECK.sentence("a GRIP of one of 1 or more");
        lawfulFromTo(Dronegrade.GRIP, 1, 8);
        CHECK.sentence("a THROW of one of 4");
        lawfulFromTo(Dronegrade.THROW, 4, 4);
        CHECK.sentence("a BIRL of one of 1");
        lawfulFromTo(Dronegrade.BIRL, 1, 1);
    }

    private static void plainFirst() {
        CHECK.sentence("PLAIN, unless the written NOTE right ahead of it in the TUNE, in whatever PART, has the same height.");
        for (int height = 0; height <= 8; height++) {
            Dronegrade x = with(Dronegrade.MARCH, Dronegrade.MARCH);
            int of = height;
            CHECK.answers(1, "the first of a tune, height " + height, () -> x.note(0, of, 1, Dronegrade.PLAIN));
            CHECK.answers(1, "the first of another tune, height " + height, () -> x.note(1, of, 1, Dronegrade.PLAIN));
            CHECK.refuses(STATE, "behind the same height " + height, () -> x.note(0, of, 1, Dronegrade.PLAIN));
            for (int next = 0; next <= 8; next++) {
                int other = next;
                if (next != height) {
                    Dronegrade y = with(Dronegrade.MARCH);
                    y.note(0, of, 1, Dronegrade.PLAIN);
                    CHECK.answers(2, next + " behind " + height, () -> y.note(0, other, 1, Dronegrade.PLAIN));
                    CHECK.answers(3, height + " again, not right behind", () -> y.note(0, of, 1, Dronegrade.PLAIN));
                }
            }
        }
    }

    private static void plainBehind() {
        int[] heights = {1, 1, 1, 1, 1, 1, 1, 4, 1};
        for (int grace = 0; grace <= 8; grace++) {
            Dronegrade x = with(Dronegrade.MARCH);
            int height = heights[grace];
            int of = grace;
            x.note(0, height, 1, of);
            CHECK.refuses(STATE, "plain behind grace " + grace, () -> x.note(0, height, 1, Dronegrade.PLAIN));
            if (grace != Dronegrade.PLAIN) {
                CHECK.answers(2, "grace " + grace + " behind the same", () -> x.note(0, height, 1, of));
            }
            CHECK.answers(grace == 0 ? 2 : 3, "plain behind another height", () -> x.note(0, 7, 1, Dronegrade.PLAIN));
        }
    }

    private static void plainBehindParts() {
        for (boolean isRepeated : new boolean[] {false, true}) {
            Dronegrade x = with(Dronegrade.REEL);
            x.note(0, 3, 4, Dronegrade.PLAIN);
            x.note(0, 5, 4, Dronegrade.PLAIN);
            x.part(0, isRepeated);
            CHECK.refuses(STATE, "the last height of the part", () -> x.note(0, 5, 8, Dronegrade.PLAIN));
            CHECK.answers(3, "the first height of the part", () -> x.note(0, 3, 8, Dronegrade.PLAIN));
        }
        Dronegrade y = with(Dronegrade.REEL);
        y.note(0, 5, 8, Dronegrade.PLAIN);
        y.part(0, true);
        CHECK.answers(2, "graced, the last height of the part", () -> y.note(0, 5, 8, Dronegrade.HIGH));
    }

    private static void plainBehindRefused() {
        Dronegrade x = with(Dronegrade.REEL);
        x.note(0, 3, 4, Dronegrade.PLAIN);
        CHECK.refuses(STATE, "too long", () -> x.note(0, 6, 5, Dronegrade.PLAIN));
        CHECK.refuses(STATE, "not lawful", () -> x.note(0, 8, 1, Dronegrade.THUMB));
        CHECK.refuses(STATE, "the last written one is of height 3", () -> x.note(0, 3, 1, Dronegrade.PLAIN));
        CHECK.answers(2, "and not of 6", () -> x.note(0, 6, 1, Dronegrade.PLAIN));
        CHECK.answers(3, "nor of 8", () -> x.note(0, 8, 1, Dronegrade.PLAIN));
    }

    private static void openNotes() {
        CHECK.sentence("The written NOTES behind the end of the latest PART, or all, if there is none, are OPEN.");
        Dronegrade x = with(Dronegrade.JIG);
        CHECK.answers(0, "nothing is written", () -> x.ofTune(0, 6));
        x.note(0, 0, 3, Dronegrade.PLAIN);
        CHECK.answers(1, "all, without a part", () -> x.ofTune(0, 6));
        x.note(0, 1, 3, Dronegrade.PLAIN);
        CHECK.answers(2, "all, without a part", () -> x.ofTune(0, 6));
        x.part(0, true);
        CHECK.answers(0, "none right behind a part", () -> x.ofTune(0, 6));
        x.note(0, 2, 1, Dronegrade.PLAIN);
        CHECK.answers(1, "those behind the part", () -> x.ofTune(0, 6));
        x.note(0, 3, 5, Dronegrade.PLAIN);
        x.note(0, 4, 6, Dronegrade.PLAIN);
        x.part(0, false);
        CHECK.answers(0, "none behind the latest part", () -> x.ofTune(0, 6));
        x.note(0, 5, 1, Dronegrade.PLAIN);
        CHECK.answers(1, "those behind the latest part", () -> x.ofTune(0, 6));
    }

    private static void endsOfBars() {
        CHECK.sentence("A NOTE can be written behind all others, if its GRACE is lawful, and it does not go over the end of a BAR");
        for (int kind = 0; kind <= 3; kind++) {
            for (int ahead = 0; ahead < BARS[kind]; ahead++) {
                Dronegrade x = with(kind);
                int left = BARS[kind] - ahead;
                x.note(0, 7, BARS[kind], Dronegrade.PLAIN);
                if (ahead > 0) {
                    x.note(0, 0, ahead, Dronegrade.PLAIN);
                }
                for (int length = left + 1; length <= 16; length++) {
                    int over = length;
                    CHECK.refuses(STATE, "kind " + kind + ", " + length + " where " + left + " are left",
                        () -> x.note(0, 1, over, Dronegrade.PLAIN));
                }
                int written = ahead > 0 ? 3 : 2;
                CHECK.answers(written, "kind " + kind + ", all " + left, () -> x.note(0, 1, left, Dronegrade.PLAIN));
                CHECK.answers(2, "kind " + kind + ", two bars", () -> x.part(0, false));
            }
        }
    }

    private static void barsBeginWithOpenNotes() {
        CHECK.sentence("the first BAR begins with the first OPEN NOTE, the next ones follow.");
        for (int kind = 0; kind <= 3; kind++) {
            int bar = BARS[kind];
            Dronegrade x = with(kind);
            for (int part = 1; part <= 3; part++) {
                for (int i = 0; i < part; i++) {
                    x.note(0, 3, bar - 1, Dronegrade.GRIP);
                    CHECK.refuses(STATE, "over the end, part " + part + ", bar " + i, () -> x.note(0, 4, 2, Dronegrade.PLAIN));
                    x.note(0, 4, 1, Dronegrade.PLAIN);
                }
                boolean isRepeated = part == 2;
                CHECK.answers(part, "bars of part " + part, () -> x.part(0, isRepeated));
            }
            CHECK.refuses(bar < 16 ? STATE : BAD, "more than a bar", () -> x.note(0, 3, bar + 1, Dronegrade.GRIP));
            CHECK.answers(13, "a whole bar", () -> x.note(0, 3, bar, Dronegrade.GRIP));
        }
    }

    private static void partsOfWholeBars() {
        CHECK.sentence("To end a PART makes it of all OPEN NOTES; it can be ended if there are some, and they fill whole BARS");
        Dronegrade x = with(Dronegrade.JIG);
        CHECK.refuses(STATE, "none is written", () -> x.part(0, false));
        CHECK.refuses(STATE, "none is written, repeated", () -> x.part(0, true));
        x.note(0, 0, 5, Dronegrade.PLAIN);
        CHECK.refuses(STATE, "5 of 6", () -> x.part(0, false));
        x.note(0, 1, 1, Dronegrade.PLAIN);
        x.note(0, 2, 1, Dronegrade.PLAIN);
        CHECK.refuses(STATE, "7 of 12", () -> x.part(0, true));
        x.note(0, 3, 4, Dronegrade.PLAIN);
        CHECK.refuses(STATE, "11 of 12", () -> x.part(0, false));
        CHECK.answers(0, "no part", () -> x.ofTune(0, 5));
        CHECK.answers(4, "all are open", () -> x.ofTune(0, 6));
        x.note(0, 4, 1, Dronegrade.PLAIN);
        CHECK.answers(2, "12 of 12", () -> x.part(0, false));
        CHECK.answers(5, "of all open notes", () -> x.ofTune(0, 1));
        CHECK.refuses(STATE, "none is open", () -> x.part(0, false));
        CHECK.refuses(STATE, "none is open, repeated", () -> x.part(0, true));
        CHECK.answers(1, "one part", () -> x.ofTune(0, 5));
    }

    private static void barsAsWritten() {
        CHECK.sentence("Returns how many BARS it has, as it is written.");
        for (int kind = 0; kind <= 3; kind++) {
            for (boolean isRepeated : new boolean[] {false, true}) {
                Dronegrade x = with(kind);
                x.note(0, 0, BARS[kind], Dronegrade.D);
                CHECK.answers(1, "one bar of kind " + kind, () -> x.part(0, isRepeated));
                for (int i = 0; i < 63; i++) {
                    x.note(0, 0, BARS[kind], Dronegrade.D);
                }
                CHECK.answers(63, "63 bars of kind " + kind, () -> x.part(0, isRepeated));
                CHECK.answers((isRepeated ? 128 : 64) * BARS[kind], "units that are played", () -> x.ofTune(0, 2));
            }
        }
    }

    private static void playedPlaces() {
        CHECK.sentence("Throws `IndexOutOfBoundsException` if there is no such TUNE, or not so many NOTES are played");
        Dronegrade x = with(Dronegrade.MARCH);
        CHECK.refusesBeyond(NO_SUCH, 0, -1, "nothing is written, place", place -> x.played(0, place, 0));
        x.note(0, 2, 8, Dronegrade.D);
        CHECK.refusesBeyond(NO_SUCH, 0, -1, "nothing is played, place", place -> x.played(0, place, 0));
        x.part(0, false);
        CHECK.refusesBeyond(NO_SUCH, 0, 0, "one is played, place", place -> x.played(0, place, 0));
        CHECK.answers(2, "the one that is played", () -> x.played(0, 0, 0));
        for (int i = 0; i < 63; i++) {
            x.note(0, 3, 8, Dronegrade.D);
        }
        CHECK.refuses(NO_SUCH, "open notes are not played", () -> x.played(0, 1, 0));
        x.part(0, true);
        CHECK.refusesBeyond(NO_SUCH, 0, 126, "127 are played, place", place -> x.played(0, place, 0));
        CHECK.answers(3, "the last one of 127", () -> x.played(0, 126, 0));
        Dronegrade y = with(Dronegrade.MARCH);
        for (int i = 0; i < 64; i++) {
            y.note(0, i % 2, 1, Dronegrade.PLAIN);
        }
        y.part(0, true);
        CHECK.refusesBeyond(NO_SUCH, 0, 127, "128 are played, place", place -> y.played(0, place, 0));
        CHECK.answers(1, "the last one of 128", () -> y.played(0, 127, 0));
        CHECK.answers(127, "units ahead of it", () -> y.played(0, 127, 3));
    }

    private static void playedWhats() {
        CHECK.sentence("0 its height, 1 its length, 2 its GRACE, 3 how many units are played ahead of it, 4 its PART, from 0");
        Dronegrade x = with(Dronegrade.JIG);
        x.note(0, 7, 6, Dronegrade.PLAIN);
        x.part(0, false);
        x.note(0, 4, 5, Dronegrade.THROW);
        x.note(0, 1, 1, Dronegrade.BIRL);
        x.part(0, false);
        int[][] due = {{7, 6, 0, 0, 0}, {4, 5, 7, 6, 1}, {1, 1, 8, 11, 1}};
        for (int place = 0; place < due.length; place++) {
            for (int what = 0; what <= 4; what++) {
                int at = place;
                int asked = what;
                CHECK.answers(due[place][what], "played(0, " + place + ", " + what + ")", () -> x.played(0, at, asked));
            }
            int at = place;
            CHECK.refusesBeyond(BAD, 0, 4, "what", what -> x.played(0, at, what));
            CHECK.refusesBeyond(NO_SUCH, 0, 4, "no such place, what", what -> x.played(0, at + 3, what));
        }
    }

    private static void plays(Dronegrade x, int what, int... due) {
        for (int place = 0; place < due.length; place++) {
            int at = place;
            CHECK.answers(due[place], "played(0, " + place + ", " + what + ")", () -> x.played(0, at, what));
        }
        CHECK.answers(due.length, "notes that are played", () -> x.ofTune(0, 1));
        CHECK.refuses(NO_SUCH, "place " + due.length, () -> x.played(0, due.length, what));
    }

    /** Parts of the heights 0 and 1, of 2, of 3 and 4, and of 5; some of them are repeated. */
    private static Dronegrade fourParts() {
        Dronegrade x = with(Dronegrade.REEL);
        x.note(0, 0, 3, Dronegrade.PLAIN);
        x.note(0, 1, 5, Dronegrade.PLAIN);
        x.part(0, true);
        x.note(0, 2, 8, Dronegrade.PLAIN);
        x.part(0, false);
        x.note(0, 3, 8, Dronegrade.PLAIN);
        x.note(0, 4, 8, Dronegrade.PLAIN);
        x.part(0, true);
        x.note(0, 5, 8, Dronegrade.PLAIN);
        x.part(0, true);
        x.note(0, 6, 8, Dronegrade.PLAIN);
        return x;
    }

    private static void playedTwice() {
        CHECK.sentence("What is played of a TUNE is the NOTES of its PARTS, one PART behind the other, a repeated one twice, "
            + "one time right behind the other; OPEN NOTES are not played.");
        plays(fourParts(), 0, 0, 1, 0, 1, 2, 3, 4, 3, 4, 5, 5);
        plays(fourParts(), 1, 3, 5, 3, 5, 8, 8, 8, 8, 8, 8, 8);
        plays(with(Dronegrade.REEL), 0);
        Dronegrade x = with(Dronegrade.REEL);
        x.note(0, 6, 8, Dronegrade.PLAIN);
        plays(x, 0);
        x.part(0, false);
        plays(x, 0, 6);
        x.note(0, 5, 8, Dronegrade.PLAIN);
        plays(x, 0, 6);
        x.part(0, true);
        plays(x, 0, 6, 5, 5);
    }

    private static void playedParts() {
        CHECK.sentence("4 its PART, from 0");
        plays(fourParts(), 4, 0, 0, 0, 0, 1, 2, 2, 2, 2, 3, 3);
        Dronegrade x = with(Dronegrade.JIG);
        for (int i = 0; i < 8; i++) {
            x.note(0, i, 6, Dronegrade.PLAIN);
            x.part(0, i == 7);
        }
        plays(x, 4, 0, 1, 2, 3, 4, 5, 6, 7, 7);
    }

    private static void playedUnitsAhead() {
        CHECK.sentence("3 how many units are played ahead of it");
        plays(fourParts(), 3, 0, 3, 8, 11, 16, 24, 32, 40, 48, 56, 64);
        Dronegrade x = with(Dronegrade.STRATHSPEY);
        for (int i = 0; i < 64; i++) {
            x.note(0, 0, 16, Dronegrade.D);
        }
        x.part(0, true);
        CHECK.answers(0, "ahead of the first", () -> x.played(0, 0, 3));
        CHECK.answers(64 * 16, "ahead of the second time", () -> x.played(0, 64, 3));
        CHECK.answers(127 * 16, "ahead of the last of the longest tune", () -> x.played(0, 127, 3));
    }

    private static void ofTuneWhats() {
        CHECK.sentence("0 its kind, 1 how many NOTES are played, 2 how many units are played, 3 how many clashes there are, "
            + "4 how many small notes are played, 5 how many PARTS it has, 6 how many NOTES are OPEN");
        Dronegrade x = fourParts();
        ofTune(x, 2, 11, 72, 1, 0, 4, 1);
        CHECK.refusesBeyond(BAD, 0, 6, "what", what -> x.ofTune(0, what));
        CHECK.refusesBeyond(NO_SUCH, 0, 6, "no such tune, what", what -> x.ofTune(1, what));
    }

    private static void ofTune(Dronegrade x, int... due) {
        for (int what = 0; what < due.length; what++) {
            int asked = what;
            CHECK.answers(due[what], "of " + Arrays.toString(due) + ", ofTune(0, " + what + ")", () -> x.ofTune(0, asked));
        }
    }

    private static void ofTuneEmptyAndFull() {
        Dronegrade x = with(Dronegrade.STRATHSPEY);
        ofTune(x, 1, 0, 0, 0, 0, 0, 0);
        x.note(0, 1, 16, Dronegrade.BIRL);
        ofTune(x, 1, 0, 0, 0, 0, 0, 1);
        for (int i = 0; i < 63; i++) {
            x.note(0, 1, 16, Dronegrade.BIRL);
        }
        ofTune(x, 1, 0, 0, 0, 0, 0, 64);
        x.part(0, true);
        ofTune(x, 1, 128, 2048, 0, 512, 1, 0);
        Dronegrade y = with(Dronegrade.JIG);
        for (int i = 0; i < 8; i++) {
            y.note(0, i, 6, Dronegrade.PLAIN);
            y.part(0, true);
        }
        ofTune(y, 3, 16, 96, 8, 0, 8, 0);
    }

    /** A jig of a bar for each note, as one part. */
    private static Dronegrade jig(boolean isRepeated, int... heightsAndGraces) {
        Dronegrade x = with(Dronegrade.JIG);
        for (int i = 0; i + 1 < heightsAndGraces.length; i += 2) {
            x.note(0, heightsAndGraces[i], 6, heightsAndGraces[i + 1]);
        }
        x.part(0, isRepeated);
        return x;
    }

    private static void clashes() {
        CHECK.sentence("A clash is a NOTE that is PLAIN, and played right behind one of the same height.");
        CHECK.answers(1, "plain behind plain", () -> jig(true, 3, 0, 5, 0, 3, 0).ofTune(0, 3));
        CHECK.answers(1, "plain behind a graced one", () -> jig(true, 3, 0, 3, Dronegrade.D).ofTune(0, 3));
        CHECK.answers(0, "a graced one behind plain", () -> jig(true, 3, Dronegrade.D, 5, 0, 3, 0).ofTune(0, 3));
        CHECK.answers(0, "a graced one behind a graced one", () -> jig(true, 3, Dronegrade.D, 3, Dronegrade.E).ofTune(0, 3));
        CHECK.answers(0, "played once", () -> jig(false, 3, 0, 5, 0, 3, 0).ofTune(0, 3));
        CHECK.answers(0, "not right behind", () -> jig(true, 3, 0, 5, 0).ofTune(0, 3));
        CHECK.answers(0, "the least height, first of all", () -> jig(false, 0, 0).ofTune(0, 3));
        CHECK.answers(1, "the least height", () -> jig(true, 0, 0, 8, 0, 0, Dronegrade.D).ofTune(0, 3));
        CHECK.answers(1, "the greatest height", () -> jig(true, 8, 0, 0, 0, 8, 0).ofTune(0, 3));
        Dronegrade x = jig(false, 3, 0, 5, 0, 3, 0);
        x.note(0, 3, 6, Dronegrade.D);
        x.part(0, false);
        CHECK.answers(0, "a graced one behind a part", () -> x.ofTune(0, 3));
        x.note(0, 4, 6, Dronegrade.PLAIN);
        x.part(0, true);
        CHECK.answers(1, "a part of one note, twice", () -> x.ofTune(0, 3));
    }

    private static void clashesOfOneNote() {
        Dronegrade x = jig(false, 2, 0);
        CHECK.answers(0, "one note, once", () -> x.ofTune(0, 3));
        CHECK.answers(1, "one note, twice", () -> jig(true, 2, 0).ofTune(0, 3));
        CHECK.answers(0, "one graced note, twice", () -> jig(true, 2, Dronegrade.D).ofTune(0, 3));
        CHECK.answers(0, "no note", () -> with(Dronegrade.JIG).ofTune(0, 3));
        Dronegrade y = with(Dronegrade.JIG);
        y.note(0, 2, 6, Dronegrade.PLAIN);
        CHECK.answers(0, "an open note", () -> y.ofTune(0, 3));
    }

    private static void smallNotes() {
        CHECK.sentence("Small notes are as many as GRACES have: a single one 1, a DOUBLING, a GRIP and a THROW 3, a BIRL 4.");
        int[] heights = {4, 3, 4, 6, 7, 6, 1, 4, 1};
        int[] due = {0, 1, 1, 1, 1, 3, 3, 3, 4};
        for (int grace = 0; grace <= 8; grace++) {
            int height = heights[grace];
            int of = grace;
            CHECK.answers(due[grace], "grace " + grace, () -> jig(false, height, of).ofTune(0, 4));
            CHECK.answers(2 * due[grace], "grace " + grace + ", twice", () -> jig(true, height, of).ofTune(0, 4));
        }
        CHECK.answers(0, "no note", () -> with(Dronegrade.JIG).ofTune(0, 4));
        Dronegrade x = jig(false, 0, Dronegrade.D, 1, Dronegrade.BIRL);
        x.note(0, 4, 6, Dronegrade.THROW);
        CHECK.answers(5, "those of open notes are not played", () -> x.ofTune(0, 4));
        x.part(0, true);
        CHECK.answers(11, "each part as often as it is played", () -> x.ofTune(0, 4));
    }

    private static void write(Dronegrade x, int tune, String heights, boolean isRepeated) {
        int bar = BARS[Integer.parseInt(Check.outcome(() -> x.ofTune(tune, 0)))];
        for (int i = 0; i < heights.length(); i++) {
            int height = heights.charAt(i) - '0';
            x.note(tune, height, bar, height < 8 ? Dronegrade.THUMB : Dronegrade.PLAIN);
        }
        x.part(tune, isRepeated);
    }

    /** Two tunes, of what is played of which the heights are told; none of them is repeated. */
    private static void alike(int due, String one, String other) {
        Dronegrade x = with(Dronegrade.JIG, Dronegrade.JIG);
        if (!one.isEmpty()) {
            write(x, 0, one, false);
        }
        if (!other.isEmpty()) {
            write(x, 1, other, false);
        }
        alike(x, due, 0, 1, one + " and " + other);
    }

    private static void alike(Dronegrade x, int due, int one, int other, String what) {
        CHECK.answers(due, what + ", alike", () -> x.alike(one, other));
        CHECK.answers(due, what + ", alike the other way", () -> x.alike(other, one));
        CHECK.answers(due, what + ", alikeAnew", () -> x.alikeAnew(one, other));
        CHECK.answers(due, what + ", alikeAnew the other way", () -> x.alikeAnew(other, one));
    }

    private static void alikeNothing() {
        CHECK.sentence("How alike two TUNES are is the greatest number of heights, one right behind the other as they are played, "
            + "that are in both TUNES so.");
        alike(0, "", "");
        alike(0, "", "0");
        alike(0, "000", "");
        alike(0, "0", "1");
        alike(0, "0123", "4567");
        Dronegrade x = with(Dronegrade.MARCH);
        alike(x, 0, 0, 0, "a tune of nothing, the same twice");
    }

    private static void alikeWhole() {
        Dronegrade x = with(Dronegrade.JIG, Dronegrade.STRATHSPEY, Dronegrade.MARCH);
        write(x, 0, "5", false);
        alike(x, 1, 0, 0, "one note, the same twice");
        write(x, 1, "01234567".repeat(8), true);
        alike(x, 128, 1, 1, "the most notes, the same twice");
        alike(x, 1, 0, 1, "one note and the most");
        write(x, 2, "01234567".repeat(8), true);
        alike(x, 128, 1, 2, "the most notes, in two tunes");
        alike(64, "0".repeat(64), "0".repeat(64));
        alike(63, "0".repeat(64), "0".repeat(63));
    }

    private static void alikeHeightsAlone() {
        Dronegrade x = with(Dronegrade.MARCH, Dronegrade.JIG);
        x.note(0, 1, 1, Dronegrade.BIRL);
        x.note(0, 4, 7, Dronegrade.THROW);
        x.part(0, false);
        x.note(0, 3, 8, Dronegrade.PLAIN);
        x.part(0, false);
        x.note(1, 1, 6, Dronegrade.PLAIN);
        x.note(1, 4, 6, Dronegrade.PLAIN);
        x.note(1, 3, 6, Dronegrade.E);
        x.part(1, false);
        alike(x, 3, 0, 1, "other kinds, lengths, graces and parts");
        alike(1, "8", "8");
        alike(1, "0", "0");
        alike(0, "7", "8");
    }

    private static void alikeOneRightBehindTheOther() {
        alike(1, "01", "10");
        alike(2, "012", "0412");
        alike(2, "01234", "01834");
        alike(2, "0101", "0011");
        alike(3, "0010", "0100");
        alike(4, "01201", "70120");
        alike(2, "012", "120");
        alike(1, "012", "210");
        alike(4, "6123405", "1234");
    }

    private static void alikeEnds() {
        alike(3, "01234", "01256");
        alike(3, "01234", "56234");
        alike(3, "01234", "23467");
        alike(3, "01234", "67012");
        alike(3, "01234", "61237");
        alike(1, "01234", "4");
        alike(1, "01234", "0");
        alike(2, "01234", "34");
        alike(2, "01234", "01");
        Dronegrade x = with(Dronegrade.JIG, Dronegrade.JIG, Dronegrade.JIG);
        write(x, 0, "012", true);
        write(x, 1, "2012", false);
        alike(x, 4, 0, 1, "over the end of the first time");
        write(x, 2, "012", false);
        alike(x, 3, 0, 2, "once, and twice");
        write(x, 2, "34", false);
        write(x, 1, "0123", false);
        alike(x, 4, 1, 2, "over the end of a part");
        alike(x, 3, 0, 2, "no way from the end to the beginning");
    }

    private static void alikeOpenNotes() {
        Dronegrade x = with(Dronegrade.JIG, Dronegrade.JIG);
        write(x, 0, "01", false);
        write(x, 1, "012", false);
        x.note(0, 2, 6, Dronegrade.PLAIN);
        alike(x, 2, 0, 1, "an open note is not played");
        x.part(0, false);
        alike(x, 3, 0, 1, "and is, as its part is ended");
        Dronegrade y = with(Dronegrade.JIG, Dronegrade.JIG);
        y.note(0, 2, 6, Dronegrade.PLAIN);
        y.note(1, 2, 6, Dronegrade.PLAIN);
        alike(y, 0, 0, 1, "open notes alone");
    }
}
