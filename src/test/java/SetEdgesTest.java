/** Boundary cases of the set (promises 9 to 11), sentence by sentence of the document. */
public final class SetEdgesTest {
    private static final Class<IndexOutOfBoundsException> NO_SUCH = IndexOutOfBoundsException.class;
    private static final Class<IllegalArgumentException> BAD = IllegalArgumentException.class;
    private static final Class<IllegalStateException> STATE = IllegalStateException.class;
    private static final int[] BARS = {8, 16, 8, 6};
    private static final Check CHECK = new Check("SetEdgesTest");

    public static void main(String[] args) {
        eightTunes();
        severalTimes();
        numbersOfTunes();
        tempi();
        somethingIsPlayed();
        withoutALastTune();
        sameKind();
        otherKinds();
        sameHeights();
        gracedFirstNotes();
        lastOneThatIsPlayed();
        kindAndHeight();
        lookedAtAsItIsPutIn();
        laterParts();
        drop();
        dropUntilNothingIsLeft();
        timeOfNothing();
        timeRoundedDown();
        timeEachByItself();
        timeGreatest();
        CHECK.finish();
    }

    /** A tune of a bar for each height, none of them plain that could be graced. */
    private static int tune(Dronegrade x, int kind, int... heights) {
        int tune = x.tune(kind);
        for (int height : heights) {
            x.note(tune, height, BARS[kind], height < 8 ? Dronegrade.THUMB : Dronegrade.PLAIN);
        }
        x.part(tune, false);
        return tune;
    }

    /** A tune of one note, that is plain. */
    private static int plain(Dronegrade x, int kind, int height) {
        int tune = x.tune(kind);
        x.note(tune, height, BARS[kind], Dronegrade.PLAIN);
        x.part(tune, false);
        return tune;
    }

    private static void eightTunes() {
        CHECK.sentence("THE SET is a row of at most 8 TUNES, each with a tempo, in units for a minute");
        Dronegrade x = new Dronegrade();
        for (int i = 0; i < 10; i++) {
            tune(x, i % 4, 2, 3);
        }
        for (int i = 0; i < 8; i++) {
            int tune = i;
            CHECK.answers(i + 1, "tune " + i, () -> x.follow(tune, 60));
        }
        CHECK.refuses(STATE, "a ninth one", () -> x.follow(8, 60));
        CHECK.refuses(STATE, "a ninth one, fast", () -> x.follow(9, 600));
        CHECK.refuses(STATE, "a ninth one, the last one again", () -> x.follow(7, 60));
        long due = 1000L * 2 * (8 + 16 + 8 + 6) * 2;
        CHECK.answers(due, "the time of the eight", x::time);
        CHECK.answers(7, "the eighth one", x::drop);
        CHECK.answers(8, "another eighth one", () -> x.follow(9, 60));
        CHECK.refuses(STATE, "a ninth one again", () -> x.follow(8, 60));
        for (int i = 0; i < 8; i++) {
            int number = i == 0 ? 9 : 7 - i;
            CHECK.answers(number, "drop " + i, x::drop);
        }
        CHECK.answers(1, "the first one of an empty set", () -> x.follow(8, 60));
    }

    private static void severalTimes() {
        CHECK.sentence("a TUNE may be in it several times");
        Dronegrade x = new Dronegrade();
        int jig = tune(x, Dronegrade.JIG, 2);
        for (int i = 1; i <= 8; i++) {
            CHECK.answers(i, "time " + i, () -> x.follow(jig, 60));
        }
        CHECK.answers(8 * 6000L, "eight times the time", x::time);
        for (int i = 1; i <= 8; i++) {
            CHECK.answers(jig, "dropped " + i, x::drop);
        }
    }

    private static void numbersOfTunes() {
        CHECK.sentence("Throws `IndexOutOfBoundsException` if there is no such TUNE");
        Dronegrade x = new Dronegrade();
        CHECK.refusesBeyond(NO_SUCH, 0, -1, "no tunes, tune", tune -> x.follow(tune, 60));
        tune(x, Dronegrade.MARCH, 2);
        CHECK.refusesBeyond(NO_SUCH, 0, 0, "one tune, tune", tune -> x.follow(tune, 60));
        for (int i = 1; i < 10; i++) {
            tune(x, Dronegrade.MARCH, 2);
        }
        CHECK.refusesBeyond(NO_SUCH, 0, 9, "ten tunes, tune", tune -> x.follow(tune, 60));
        CHECK.answers(1, "the first tune", () -> x.follow(0, 60));
        CHECK.answers(2, "the last tune", () -> x.follow(9, 60));
    }

    private static void tempi() {
        CHECK.sentence("`tempo`: 30 to 600");
        Dronegrade x = new Dronegrade();
        int march = tune(x, Dronegrade.MARCH, 2);
        CHECK.refusesBeyond(BAD, 30, 600, "tempo", tempo -> x.follow(march, tempo));
        CHECK.refuses(BAD, "tempo 0", () -> x.follow(march, 0));
        CHECK.refuses(BAD, "tempo -30", () -> x.follow(march, -30));
        CHECK.answers(1, "tempo 30", () -> x.follow(march, 30));
        CHECK.answers(16000L, "8 units, tempo 30", x::time);
        CHECK.answers(2, "tempo 600", () -> x.follow(march, 600));
        CHECK.answers(16800L, "8 units more, tempo 600", x::time);
        CHECK.refusesBeyond(BAD, 30, 600, "tempo", tempo -> x.follow(march, tempo));
        CHECK.answers(16800L, "the refused ones take no time", x::time);
    }

    private static void somethingIsPlayed() {
        CHECK.sentence("A TUNE may follow, if something of it is played");
        Dronegrade x = new Dronegrade();
        x.tune(Dronegrade.MARCH);
        CHECK.refuses(STATE, "nothing is written", () -> x.follow(0, 60));
        x.note(0, 3, 8, Dronegrade.PLAIN);
        CHECK.refuses(STATE, "an open bar is not played", () -> x.follow(0, 60));
        x.part(0, false);
        CHECK.answers(1, "a part is played", () -> x.follow(0, 60));
        x.tune(Dronegrade.REEL);
        CHECK.refuses(STATE, "nothing is written, behind another one", () -> x.follow(1, 60));
        x.note(1, 1, 1, Dronegrade.PLAIN);
        CHECK.refuses(STATE, "an open note, behind another one", () -> x.follow(1, 60));
        CHECK.answers(0, "the last one is as it was", x::drop);
    }

    private static void withoutALastTune() {
        CHECK.sentence("and, if THE SET has a last TUNE, unless");
        for (int height = 0; height <= 8; height++) {
            Dronegrade x = new Dronegrade();
            int plain = plain(x, Dronegrade.MARCH, height);
            CHECK.answers(1, "the first one, plain, of the height " + height, () -> x.follow(plain, 30));
            CHECK.refuses(STATE, "not behind itself", () -> x.follow(plain, 30));
            x.drop();
            CHECK.answers(1, "the first one again, slow", () -> x.follow(plain, 600));
            x.drop();
            CHECK.answers(1, "and again, slower than the one that was there", () -> x.follow(plain, 599));
        }
    }

    private static void sameKind() {
        CHECK.sentence("unless both have the same kind and its tempo is below that of the last one");
        for (int kind = 0; kind <= 3; kind++) {
            Dronegrade x = new Dronegrade();
            int one = tune(x, kind, 2);
            int other = tune(x, kind, 3, 4);
            x.follow(one, 100);
            CHECK.refuses(STATE, "kind " + kind + ", 99 behind 100", () -> x.follow(other, 99));
            CHECK.refuses(STATE, "kind " + kind + ", 30 behind 100", () -> x.follow(other, 30));
            CHECK.refuses(STATE, "kind " + kind + ", itself, 99 behind 100", () -> x.follow(one, 99));
            CHECK.answers(2, "kind " + kind + ", 100 behind 100", () -> x.follow(other, 100));
            CHECK.answers(3, "kind " + kind + ", 101 behind 100", () -> x.follow(one, 101));
            CHECK.refuses(STATE, "kind " + kind + ", 100 behind 101", () -> x.follow(other, 100));
            CHECK.answers(4, "kind " + kind + ", 600 behind 101", () -> x.follow(other, 600));
            CHECK.refuses(STATE, "kind " + kind + ", 599 behind 600", () -> x.follow(one, 599));
            CHECK.answers(5, "kind " + kind + ", 600 behind 600", () -> x.follow(one, 600));
        }
    }

    private static void otherKinds() {
        for (int kind = 0; kind <= 3; kind++) {
            for (int next = 0; next <= 3; next++) {
                Dronegrade x = new Dronegrade();
                int one = tune(x, kind, 2);
                int other = tune(x, next, 2);
                x.follow(one, 600);
                if (kind == next) {
                    CHECK.refuses(STATE, "kind " + next + " behind itself, slower", () -> x.follow(other, 599));
                } else {
                    CHECK.answers(2, "kind " + next + " behind " + kind + ", slower", () -> x.follow(other, 30));
                    CHECK.answers(3, "the last one alone counts, 31 behind 30", () -> x.follow(one, 31));
                }
            }
        }
    }

    private static void sameHeights() {
        CHECK.sentence("or unless its first NOTE that is played is PLAIN, and has the height of the last one "
            + "that is played of the last TUNE.");
        for (int height = 0; height <= 8; height++) {
            Dronegrade x = new Dronegrade();
            int ending = tune(x, Dronegrade.MARCH, (height + 1) % 9, height);
            for (int next = 0; next <= 8; next++) {
                int plain = plain(x, Dronegrade.REEL, next);
                x.follow(ending, 60);
                if (height == next) {
                    CHECK.refuses(STATE, "plain " + next + " behind " + height, () -> x.follow(plain, 60));
                } else {
                    CHECK.answers(2, "plain " + next + " behind " + height, () -> x.follow(plain, 60));
                    x.drop();
                }
                x.drop();
            }
        }
    }

    private static void gracedFirstNotes() {
        int[] heights = {1, 1, 1, 1, 1, 1, 1, 4, 1};
        for (int grace = 0; grace <= 8; grace++) {
            Dronegrade x = new Dronegrade();
            int ending = tune(x, Dronegrade.MARCH, 2, heights[grace]);
            int graced = x.tune(Dronegrade.JIG);
            x.note(graced, heights[grace], 6, grace);
            x.part(graced, false);
            x.follow(ending, 60);
            if (grace == Dronegrade.PLAIN) {
                CHECK.refuses(STATE, "plain, the same height", () -> x.follow(graced, 60));
            } else {
                CHECK.answers(2, "grace " + grace + ", the same height", () -> x.follow(graced, 60));
            }
        }
    }

    private static void lastOneThatIsPlayed() {
        Dronegrade x = new Dronegrade();
        int ending = tune(x, Dronegrade.MARCH, 2, 3, 4);
        x.note(ending, 5, 8, Dronegrade.PLAIN);
        int plain2 = plain(x, Dronegrade.REEL, 2);
        int plain3 = plain(x, Dronegrade.REEL, 3);
        int plain4 = plain(x, Dronegrade.REEL, 4);
        int plain5 = plain(x, Dronegrade.REEL, 5);
        x.follow(ending, 60);
        CHECK.refuses(STATE, "the height of the last one that is played", () -> x.follow(plain4, 60));
        for (int other : new int[] {plain2, plain3, plain5}) {
            CHECK.answers(2, "tune " + other + ": not the height of the last one that is played", () -> x.follow(other, 60));
            x.drop();
        }
        x.follow(plain5, 60);
        CHECK.answers(3, "the last tune alone counts", () -> x.follow(plain4, 60));
        Dronegrade y = new Dronegrade();
        int repeated = y.tune(Dronegrade.MARCH);
        y.note(repeated, 6, 4, Dronegrade.PLAIN);
        y.note(repeated, 7, 4, Dronegrade.PLAIN);
        y.part(repeated, true);
        int plain6 = plain(y, Dronegrade.JIG, 6);
        int plain7 = plain(y, Dronegrade.JIG, 7);
        y.follow(repeated, 60);
        CHECK.refuses(STATE, "the last one of the second time", () -> y.follow(plain7, 60));
        CHECK.answers(2, "the first one of the second time", () -> y.follow(plain6, 60));
    }

    private static void kindAndHeight() {
        Dronegrade x = new Dronegrade();
        int ending = tune(x, Dronegrade.REEL, 2, 4);
        int same = plain(x, Dronegrade.REEL, 4);
        int other = plain(x, Dronegrade.REEL, 5);
        x.follow(ending, 60);
        CHECK.refuses(STATE, "the same height, and slower", () -> x.follow(same, 59));
        CHECK.refuses(STATE, "the same height, and faster", () -> x.follow(same, 61));
        CHECK.refuses(STATE, "another height, and slower", () -> x.follow(other, 59));
        CHECK.answers(2, "another height, and as fast", () -> x.follow(other, 60));
    }

    private static void lookedAtAsItIsPutIn() {
        CHECK.sentence("That is looked at as it is put in alone, by what the TUNES are then; PARTS that come later are played as well.");
        Dronegrade x = new Dronegrade();
        int march = tune(x, Dronegrade.MARCH, 2, 3);
        int plain5 = plain(x, Dronegrade.REEL, 5);
        int plain3 = plain(x, Dronegrade.JIG, 3);
        x.follow(march, 60);
        CHECK.refuses(STATE, "behind 3 as it is now", () -> x.follow(plain3, 60));
        CHECK.answers(2, "5 behind 3", () -> x.follow(plain5, 60));
        x.note(march, 5, 8, Dronegrade.PLAIN);
        x.part(march, false);
        CHECK.answers(24000L + 8000L, "the two stay, though 5 is behind 5 now", x::time);
        CHECK.answers(plain5, "dropped", x::drop);
        CHECK.refuses(STATE, "5 behind 5 as it is put in again", () -> x.follow(plain5, 60));
        CHECK.answers(2, "3 behind 5 may follow now", () -> x.follow(plain3, 60));
    }

    private static void laterParts() {
        Dronegrade x = new Dronegrade();
        int jig = tune(x, Dronegrade.JIG, 2);
        x.follow(jig, 60);
        x.follow(jig, 60);
        CHECK.answers(12000L, "a bar, in it two times", x::time);
        x.note(jig, 3, 6, Dronegrade.PLAIN);
        CHECK.answers(12000L, "an open bar", x::time);
        x.part(jig, true);
        CHECK.answers(36000L, "two bars more, two times", x::time);
        CHECK.answers(jig, "dropped", x::drop);
        CHECK.answers(18000L, "once", x::time);
    }

    private static void drop() {
        CHECK.sentence("Takes the last TUNE out of THE SET; returns its number. @throws IllegalStateException if there is none");
        Dronegrade x = new Dronegrade();
        CHECK.refuses(STATE, "no tunes at all", x::drop);
        int jig = tune(x, Dronegrade.JIG, 2);
        int reel = tune(x, Dronegrade.REEL, 2);
        CHECK.refuses(STATE, "tunes, and none in the set", x::drop);
        x.follow(reel, 60);
        x.follow(jig, 60);
        CHECK.answers(jig, "the number of the last one, not of the highest", x::drop);
        CHECK.answers(8000L, "the other one stays", x::time);
        CHECK.answers(1, "the jig is still a tune", () -> x.ofTune(jig, 1));
        CHECK.answers(reel, "the only one", x::drop);
        CHECK.answers(0L, "nothing is left", x::time);
    }

    private static void dropUntilNothingIsLeft() {
        Dronegrade x = new Dronegrade();
        int jig = tune(x, Dronegrade.JIG, 2);
        for (int i = 0; i < 3; i++) {
            CHECK.answers(1, "in", () -> x.follow(jig, 600));
            CHECK.answers(jig, "out", x::drop);
            CHECK.refuses(STATE, "out once more", x::drop);
        }
        CHECK.answers(1, "in, slower than it ever was", () -> x.follow(jig, 30));
    }

    private static void timeOfNothing() {
        CHECK.sentence("The time of THE SET, in thousandths of a second, is the sum, over its TUNES, of 60000 times the units "
            + "that are played, divided by the tempo, each rounded down by itself.");
        Dronegrade x = new Dronegrade();
        CHECK.answers(0L, "no tunes", x::time);
        int jig = tune(x, Dronegrade.JIG, 2);
        CHECK.answers(0L, "no tunes in the set", x::time);
        x.follow(jig, 600);
        CHECK.answers(600L, "the shortest set", x::time);
        x.drop();
        CHECK.answers(0L, "no tunes in the set any more", x::time);
    }

    private static void timeRoundedDown() {
        int[] tempi = {31, 127, 419, 361, 599};
        for (int tempo : tempi) {
            Dronegrade x = new Dronegrade();
            x.follow(tune(x, Dronegrade.JIG, 2), tempo);
            CHECK.answers(360000L / tempo, "360000 divided by " + tempo, x::time);
        }
        Dronegrade x = new Dronegrade();
        x.follow(tune(x, Dronegrade.JIG, 2), 599);
        CHECK.answers(601L, "601.0016", x::time);
        Dronegrade y = new Dronegrade();
        y.follow(tune(y, Dronegrade.JIG, 2), 119);
        CHECK.answers(3025L, "3025.2", y::time);
        Dronegrade z = new Dronegrade();
        z.follow(tune(z, Dronegrade.JIG, 2), 517);
        CHECK.answers(696L, "696.32", z::time);
        Dronegrade w = new Dronegrade();
        w.follow(tune(w, Dronegrade.JIG, 2), 361);
        CHECK.answers(997L, "997.2", w::time);
        Dronegrade v = new Dronegrade();
        v.follow(tune(v, Dronegrade.MARCH, 2), 257);
        CHECK.answers(1867L, "1867.7, the units times 60000 first", v::time);
    }

    private static void timeEachByItself() {
        Dronegrade x = new Dronegrade();
        int march = tune(x, Dronegrade.MARCH, 2);
        for (int i = 1; i <= 8; i++) {
            x.follow(march, 257);
            CHECK.answers(1867L * i, i + " times 1867.7", x::time);
        }
        Dronegrade y = new Dronegrade();
        int reel = tune(y, Dronegrade.REEL, 2);
        int jig = tune(y, Dronegrade.JIG, 2);
        y.follow(reel, 257);
        y.follow(jig, 127);
        CHECK.answers(1867L + 2834L, "1867.7 and 2834.6", y::time);
    }

    private static void timeGreatest() {
        Dronegrade x = new Dronegrade();
        x.tune(Dronegrade.STRATHSPEY);
        for (int i = 0; i < 64; i++) {
            x.note(0, 0, 16, Dronegrade.D);
        }
        x.part(0, true);
        for (int i = 1; i <= 8; i++) {
            x.follow(0, 30);
            CHECK.answers(4096000L * i, "2048 units, tempo 30, " + i + " times", x::time);
        }
    }
}
