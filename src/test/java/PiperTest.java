/** Promises 12 to 20: pipers. */
public final class PiperTest {
    private static final Class<IndexOutOfBoundsException> NO_SUCH = IndexOutOfBoundsException.class;
    private static final Class<IllegalArgumentException> BAD = IllegalArgumentException.class;
    private static final Class<IllegalStateException> STATE = IllegalStateException.class;
    private static final Check CHECK = new Check("PiperTest");

    public static void main(String[] args) {
        promise12Piper();
        promise13Seat();
        promise14Rest();
        promise15Wet();
        promise15Warmth();
        promise15Reed();
        promise15AnswersAndWrongInputs();
        promise16OfPiper();
        promise16Middle();
        promise17Spread();
        promise18Odd();
        promise19Beats();
        promise20Ahead();
        CHECK.finish();
    }

    /** Pipers whose pitches are the ones told, each with a breath of 0. */
    private static Dronegrade pitched(int... pitches) {
        Dronegrade x = new Dronegrade();
        for (int pitch : pitches) {
            x.piper(pitch - 40, 20, 0);
        }
        return x;
    }

    private static void tells(Dronegrade x, String what, int piper, int... due) {
        for (int i = 0; i < due.length; i++) {
            int asked = i;
            CHECK.answers(due[i], what + ": ofPiper(" + piper + ", " + i + ")", () -> x.ofPiper(piper, asked));
        }
    }

    private static void promise12Piper() {
        Dronegrade x = new Dronegrade();
        for (int wrong : new int[] {Integer.MIN_VALUE, -101, 101, Integer.MAX_VALUE}) {
            CHECK.refuses(BAD, "reed " + wrong, () -> x.piper(wrong, 10, 0));
        }
        for (int wrong : new int[] {Integer.MIN_VALUE, 9, 41, Integer.MAX_VALUE}) {
            CHECK.refuses(BAD, "pressure " + wrong, () -> x.piper(0, wrong, 0));
        }
        for (int wrong : new int[] {Integer.MIN_VALUE, -1, 10, Integer.MAX_VALUE}) {
            CHECK.refuses(BAD, "breath " + wrong, () -> x.piper(0, 10, wrong));
        }
        CHECK.answers(0, "least piper", () -> x.piper(-100, 10, 0));
        CHECK.answers(1, "greatest piper", () -> x.piper(100, 40, 9));
        tells(x, "least piper", 0, -80, -100, 0, 0, 0);
        tells(x, "greatest piper", 1, 180, 100, 0, 0, 0);
        for (int i = 2; i < 8; i++) {
            CHECK.answers(i, "piper " + i, () -> x.piper(0, 10, 0));
        }
        CHECK.refuses(STATE, "ninth piper", () -> x.piper(0, 10, 0));
        CHECK.refuses(BAD, "ninth piper, of no reed", () -> x.piper(101, 10, 0));
        CHECK.refuses(NO_SUCH, "the refused piper is not there", () -> x.ofPiper(8, 0));
        CHECK.answers(false, "a piper plays at first", () -> x.rest(0, false));
    }

    private static void promise13Seat() {
        Dronegrade x = pitched(40, 40);
        for (int wrong : new int[] {Integer.MIN_VALUE, -1, 2, Integer.MAX_VALUE}) {
            CHECK.refuses(NO_SUCH, "seat of piper " + wrong, () -> x.seat(wrong, 1));
            CHECK.refuses(NO_SUCH, "seat of piper " + wrong + " by 101", () -> x.seat(wrong, 101));
        }
        for (int wrong : new int[] {Integer.MIN_VALUE, -101, 101, Integer.MAX_VALUE}) {
            CHECK.refuses(BAD, "seat by " + wrong, () -> x.seat(0, wrong));
        }
        CHECK.answers(30, "seat by 30", () -> x.seat(0, 30));
        CHECK.answers(100, "seat by 70 more", () -> x.seat(0, 70));
        CHECK.refuses(BAD, "seat over 100", () -> x.seat(0, 1));
        CHECK.answers(100, "seat by 0", () -> x.seat(0, 0));
        CHECK.refuses(BAD, "by -101, though the seat would be right", () -> x.seat(0, -101));
        CHECK.answers(0, "seat by -100", () -> x.seat(0, -100));
        CHECK.answers(-100, "seat by -100 again", () -> x.seat(0, -100));
        CHECK.answers(0, "seat by 100", () -> x.seat(0, 100));
        CHECK.answers(-100, "seat by -100 once more", () -> x.seat(0, -100));
        CHECK.refuses(BAD, "seat below -100", () -> x.seat(0, -1));
        CHECK.refuses(BAD, "by 101, though the seat would be right", () -> x.seat(0, 101));
        tells(x, "the seat stays", 0, -60, 0, -100);
        tells(x, "the other seat is its own", 1, 40, 0, 0);
    }

    private static void promise14Rest() {
        Dronegrade x = pitched(10, 20);
        for (int wrong : new int[] {Integer.MIN_VALUE, -1, 2, Integer.MAX_VALUE}) {
            CHECK.refuses(NO_SUCH, "rest of piper " + wrong, () -> x.rest(wrong, true));
        }
        CHECK.answers(false, "played before", () -> x.rest(0, true));
        CHECK.answers(true, "rested before", () -> x.rest(0, true));
        CHECK.answers(false, "the other one played", () -> x.rest(1, false));
        CHECK.answers(0, "one plays", () -> x.spread());
        CHECK.answers(true, "rested before, plays now", () -> x.rest(0, false));
        CHECK.answers(false, "played before again", () -> x.rest(0, false));
        CHECK.answers(10, "both play", () -> x.spread());
    }

    private static void promise15Wet() {
        Dronegrade x = new Dronegrade();
        x.piper(0, 20, 3);
        x.piper(0, 20, 0);
        x.play(1, 4, 0);
        tells(x, "breath and rain", 0, 33, 0, 0, 0, 7);
        tells(x, "rain alone", 1, 36, 0, 0, 0, 4);
        x.play(13, 4, 0);
        tells(x, "wet by 98", 0, -58, 0, 0, 0, 98);
        x.rest(1, true);
        x.play(1, 4, 0);
        tells(x, "100 at most", 0, -61, -1, 0, 0, 100);
        tells(x, "who rests gets dry in the rain", 1, -14, 0, 0, 0, 54);
        x.rest(0, true);
        x.play(26, 9, 40);
        tells(x, "2 less a minute", 0, -9, -1, 0, 0, 48);
        tells(x, "2 less a minute", 1, 38, 0, 0, 0, 2);
        x.rest(1, false);
        x.play(1, 1, 0);
        x.rest(1, true);
        x.play(1, 1, 0);
        tells(x, "3, and 2 less", 1, 39, 0, 0, 0, 1);
        x.play(1, 1, 0);
        tells(x, "0 at least", 1, 40, 0, 0, 0, 0);
    }

    private static void promise15Warmth() {
        Dronegrade x = pitched(40, 40);
        x.play(5, 0, 3);
        tells(x, "warm as the heat", 0, 49, 0, 0, 3, 0);
        x.play(1, 0, 4);
        tells(x, "one more", 0, 52, 0, 0, 4, 0);
        x.play(1, 0, 0);
        tells(x, "one less", 0, 49, 0, 0, 3, 0);
        x.play(40, 0, 40);
        tells(x, "up to the heat", 0, 160, 0, 0, 40, 0);
        x.rest(1, true);
        x.play(2, 0, 40);
        tells(x, "who plays keeps the heat", 0, 160, 0, 0, 40, 0);
        tells(x, "who rests cools whatever the heat", 1, 154, 0, 0, 38, 0);
        x.play(37, 0, 40);
        tells(x, "down to 1", 1, 43, 0, 0, 1, 0);
        x.play(2, 0, 40);
        tells(x, "0 at least", 1, 40, 0, 0, 0, 0);
    }

    private static void promise15Reed() {
        Dronegrade x = new Dronegrade();
        x.piper(0, 20, 9);
        x.piper(-99, 20, 9);
        x.piper(0, 20, 1);
        x.play(11, 0, 0);
        tells(x, "99 is not 100", 0, -59, 0, 0, 0, 99);
        x.play(1, 0, 0);
        tells(x, "the minute that makes it 100 counts", 0, -61, -1, 0, 0, 100);
        tells(x, "-100", 1, -160, -100, 0, 0, 100);
        tells(x, "dry enough", 2, 28, 0, 0, 0, 12);
        x.play(3, 0, 0);
        tells(x, "each minute", 0, -64, -4, 0, 0, 100);
        tells(x, "-100 at least", 1, -160, -100, 0, 0, 100);
        x.rest(0, true);
        x.play(1, 0, 0);
        tells(x, "who rests keeps the reed", 0, -62, -4, 0, 0, 98);
        Dronegrade y = new Dronegrade();
        y.piper(0, 20, 9);
        y.play(12, 0, 0);
        CHECK.answers(-1, "reed ahead of 120 wet minutes", () -> y.ofPiper(0, 1));
        y.play(120, 0, 0);
        CHECK.answers(-100, "reed behind 120 wet minutes", () -> y.ofPiper(0, 1));
    }

    private static void promise15AnswersAndWrongInputs() {
        Dronegrade x = new Dronegrade();
        CHECK.answers(0, "play without pipers", () -> x.play(120, 9, 40));
        x.piper(0, 20, 1);
        x.piper(0, 20, 4);
        for (int wrong : new int[] {Integer.MIN_VALUE, -1, 0, 121, Integer.MAX_VALUE}) {
            CHECK.refuses(BAD, "play(" + wrong + ", 0, 0)", () -> x.play(wrong, 0, 0));
            CHECK.refuses(BAD, "ahead(" + wrong + ", 0, 0)", () -> x.ahead(wrong, 0, 0));
        }
        for (int wrong : new int[] {Integer.MIN_VALUE, -1, 10, Integer.MAX_VALUE}) {
            CHECK.refuses(BAD, "play(1, " + wrong + ", 0)", () -> x.play(1, wrong, 0));
            CHECK.refuses(BAD, "ahead(1, " + wrong + ", 0)", () -> x.ahead(1, wrong, 0));
        }
        for (int wrong : new int[] {Integer.MIN_VALUE, -1, 41, Integer.MAX_VALUE}) {
            CHECK.refuses(BAD, "play(1, 0, " + wrong + ")", () -> x.play(1, 0, wrong));
            CHECK.refuses(BAD, "ahead(1, 0, " + wrong + ")", () -> x.ahead(1, 0, wrong));
        }
        tells(x, "no minute went by", 0, 40, 0, 0, 0, 0);
        CHECK.answers(15, "the spread behind 5 minutes", () -> x.play(5, 0, 0));
        x.rest(1, true);
        CHECK.answers(0, "of those who play", () -> x.play(1, 0, 0));
        tells(x, "who rests has minutes, too", 1, 22, 0, 0, 0, 18);
        CHECK.answers(0, "play(120, 9, 40)", () -> x.play(120, 9, 40));
    }

    private static void promise16OfPiper() {
        Dronegrade x = new Dronegrade();
        CHECK.refuses(NO_SUCH, "no pipers", () -> x.ofPiper(0, 0));
        x.piper(-7, 31, 2);
        x.seat(0, 11);
        x.play(4, 3, 2);
        tells(x, "reed, seat, twice the pressure, 3 times the warmth, less the wet", 0, -7 + 11 + 62 + 6 - 20, -7, 11, 2, 20, 0);
        for (int wrong : new int[] {Integer.MIN_VALUE, -1, 6, Integer.MAX_VALUE}) {
            CHECK.refuses(BAD, "what " + wrong, () -> x.ofPiper(0, wrong));
            CHECK.refuses(NO_SUCH, "what " + wrong + ", no such piper", () -> x.ofPiper(1, wrong));
        }
        for (int wrong : new int[] {Integer.MIN_VALUE, -1, 1, Integer.MAX_VALUE}) {
            CHECK.refuses(NO_SUCH, "piper " + wrong, () -> x.ofPiper(wrong, 0));
        }
    }

    private static void toMiddle(Dronegrade x, String what, int... due) {
        for (int i = 0; i < due.length; i++) {
            int piper = i;
            CHECK.answers(due[i], what + ": ofPiper(" + i + ", 5)", () -> x.ofPiper(piper, 5));
        }
    }

    private static void promise16Middle() {
        toMiddle(pitched(30), "of one", 0);
        toMiddle(pitched(30, 20), "of two the lower", -10, 0);
        toMiddle(pitched(30, 20, 27), "of three the middle", -3, 7, 0);
        toMiddle(pitched(30, 20, 27, 25), "of four the second", -5, 5, -2, 0);
        toMiddle(pitched(9, 9, 9, 1, 20), "alike ones each by itself", 0, 0, 0, 8, -11);
        toMiddle(pitched(9, 9, 1, 1, 20, 30), "of six the third", 0, 0, 8, 8, -11, -21);
        toMiddle(pitched(8, 7, 6, 5, 4, 3, 2, 1), "of eight the fourth", -4, -3, -2, -1, 0, 1, 2, 3);
        Dronegrade x = pitched(30, 20, 27);
        x.rest(2, true);
        toMiddle(x, "told of one who rests, who is not counted", -10, 0, -7);
        x.rest(0, true);
        x.rest(1, true);
        toMiddle(x, "nobody plays", 0, 0, 0);
        x.rest(0, false);
        toMiddle(x, "one plays", 0, 10, 3);
        x.seat(0, 5);
        toMiddle(x, "as it is now", 0, 15, 8);
    }

    private static void promise17Spread() {
        CHECK.answers(0, "spread of none", () -> pitched().spread());
        CHECK.answers(0, "spread of one", () -> pitched(-60).spread());
        CHECK.answers(25, "spread of three", () -> pitched(-5, 20, 3).spread());
        CHECK.answers(30, "spread, all below 0", () -> pitched(-35, -5, -9).spread());
        Dronegrade x = pitched(-5, 20, 3, 7);
        x.rest(1, true);
        CHECK.answers(12, "spread without who rests", () -> x.spread());
        x.rest(0, true);
        CHECK.answers(4, "spread without two who rest", () -> x.spread());
        x.rest(2, true);
        x.rest(3, true);
        CHECK.answers(0, "spread of nobody", () -> x.spread());
        CHECK.answers(105, "spread of eight", () -> pitched(1, 2, 3, 4, 5, 6, 7, 106).spread());
    }

    private static void promise18Odd() {
        CHECK.answers(-1, "odd of none", () -> pitched().odd());
        CHECK.answers(-1, "odd of one", () -> pitched(40).odd());
        CHECK.answers(0, "odd of two", () -> pitched(40, 50).odd());
        CHECK.answers(2, "odd of three", () -> pitched(40, 45, 60).odd());
        CHECK.answers(1, "odd at the low end", () -> pitched(40, -45, 60).odd());
        CHECK.answers(0, "odd, both ends are the same", () -> pitched(50, 45, 40).odd());
        CHECK.answers(0, "odd of all alike", () -> pitched(40, 40, 40).odd());
        CHECK.answers(0, "odd, no one alone makes it less", () -> pitched(50, 40, 40, 50).odd());
        CHECK.answers(7, "odd of eight", () -> pitched(1, 2, 3, 4, 5, 6, 7, 106).odd());
        Dronegrade x = pitched(90, 40, 45, 60);
        x.rest(0, true);
        CHECK.answers(3, "odd of those who play", () -> x.odd());
        x.rest(3, true);
        CHECK.answers(1, "odd of two who play", () -> x.odd());
        x.rest(1, true);
        CHECK.answers(-1, "odd of one who plays", () -> x.odd());
    }

    private static void promise19Beats() {
        Dronegrade x = pitched(40, 45, -30, 140);
        CHECK.answers(2400f / 1731f, "5 apart", () -> x.beats(0, 1));
        CHECK.answers(2400f / 1731f, "5 apart, the other way", () -> x.beats(1, 0));
        CHECK.answers(81600f / 1731f, "170 apart", () -> x.beats(2, 3));
        CHECK.answers(0f, "the same twice", () -> x.beats(2, 2));
        x.rest(0, true);
        CHECK.answers(2400f / 1731f, "whether they play or not", () -> x.beats(0, 1));
        for (int apart = 0; apart <= 100; apart++) {
            x.seat(0, apart == 0 ? 0 : 1);
            int by = apart;
            CHECK.answers((float) (480 * Math.abs(5 - by)) / (float) 1731, "seat " + by, () -> x.beats(0, 1));
        }
        for (int wrong : new int[] {Integer.MIN_VALUE, -1, 4, Integer.MAX_VALUE}) {
            CHECK.refuses(NO_SUCH, "beats(" + wrong + ", 0)", () -> x.beats(wrong, 0));
            CHECK.refuses(NO_SUCH, "beats(0, " + wrong + ")", () -> x.beats(0, wrong));
        }
    }

    private static void promise20Ahead() {
        Dronegrade x = new Dronegrade();
        CHECK.answers(0, "ahead without pipers", () -> x.ahead(1, 0, 0));
        x.piper(0, 20, 1);
        x.piper(10, 20, 9);
        x.piper(100, 40, 0);
        x.seat(1, 3);
        x.rest(2, true);
        CHECK.answers(13, "the spread ahead of it", () -> x.spread());
        CHECK.answers(5, "behind a minute", () -> x.ahead(1, 0, 0));
        CHECK.answers(5, "behind the same minute", () -> x.ahead(1, 0, 0));
        CHECK.answers(19, "behind 4 minutes", () -> x.ahead(4, 5, 40));
        CHECK.answers(76, "behind 12 minutes", () -> x.ahead(12, 0, 12));
        tells(x, "it changes nothing", 0, 40, 0, 0, 0, 0);
        tells(x, "it changes nothing", 1, 53, 10, 3, 0, 0);
        tells(x, "it changes nothing", 2, 180, 100, 0, 0, 0);
        CHECK.answers(13, "nor the spread", () -> x.spread());
        CHECK.answers(true, "nor who rests", () -> x.rest(2, true));
        CHECK.answers(76, "the minutes then", () -> x.play(12, 0, 12));
        x.rest(2, false);
        CHECK.answers((100 + 80 + 3 - 3) - (8 + 3 + 40 + 33 - 100), "each has a pressure of its own", () -> x.ahead(1, 3, 11));
        x.rest(2, true);
        x.rest(0, true);
        x.rest(1, true);
        CHECK.answers(0, "nobody plays", () -> x.ahead(120, 9, 40));
    }
}
