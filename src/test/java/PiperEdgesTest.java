/** Boundary cases of pipers (promises 12 to 20), sentence by sentence of the document. */
public final class PiperEdgesTest {
    private static final Class<IndexOutOfBoundsException> NO_SUCH = IndexOutOfBoundsException.class;
    private static final Class<IllegalArgumentException> BAD = IllegalArgumentException.class;
    private static final Class<IllegalStateException> STATE = IllegalStateException.class;
    private static final Check CHECK = new Check("PiperEdgesTest");

    public static void main(String[] args) {
        eightPipers();
        numbersOfPipers();
        reeds();
        pressures();
        breaths();
        atFirst();
        seatRange();
        byRange();
        restWas();
        pitch();
        minutes();
        rains();
        heats();
        wetAtMost();
        wetAtLeast();
        warmthOfOneWhoPlays();
        warmthOfOneWhoRests();
        reedByWet();
        reedAtLeast();
        orderWithinAMinute();
        minutesOneByOne();
        playAnswers();
        ofPiperWhats();
        spread();
        odd();
        oddOfSeveral();
        oddOfThoseWhoPlay();
        middle();
        middleOfThoseWhoPlay();
        middleAsItIsNow();
        beats();
        beatsGreatest();
        ahead();
        aheadIsLikePlay();
        CHECK.finish();
    }

    /** Pipers whose pitches are the ones told, each with a breath of 0. */
    private static Dronegrade pitched(int... pitches) {
        Dronegrade x = new Dronegrade();
        for (int pitch : pitches) {
            x.piper(pitch - 40, 20, 0);
        }
        return x;
    }

    /** One piper, of the pressure 10, that has the pitch 20 with a reed of 0. */
    private static Dronegrade one(int reed, int breath) {
        Dronegrade x = new Dronegrade();
        x.piper(reed, 10, breath);
        return x;
    }

    private static void tells(Dronegrade x, String what, int piper, int reed, int warmth, int wet) {
        CHECK.answers(reed, what + ": reed", () -> x.ofPiper(piper, 1));
        CHECK.answers(warmth, what + ": warmth", () -> x.ofPiper(piper, 3));
        CHECK.answers(wet, what + ": wet", () -> x.ofPiper(piper, 4));
    }

    private static void eightPipers() {
        CHECK.sentence("PIPERS are numbered from 0, at most 8");
        Dronegrade x = new Dronegrade();
        for (int i = 0; i < 8; i++) {
            int piper = i;
            CHECK.answers(i, "piper " + i, () -> x.piper(piper, 20, 0));
        }
        CHECK.refuses(STATE, "a ninth piper", () -> x.piper(0, 20, 0));
        x.rest(0, true);
        CHECK.refuses(STATE, "a ninth piper, as one rests", () -> x.piper(100, 40, 9));
        CHECK.answers(7, "reed of the eighth one", () -> x.ofPiper(7, 1));
        CHECK.refuses(NO_SUCH, "no ninth one is there", () -> x.ofPiper(8, 0));
        CHECK.answers(6, "spread of the seven who play", x::spread);
    }

    private static void numbersOfPipers() {
        CHECK.sentence("Throws `IndexOutOfBoundsException` if there is no such PIPER");
        for (int pipers : new int[] {0, 1, 7, 8}) {
            Dronegrade x = pitched(new int[pipers]);
            int last = pipers - 1;
            CHECK.refusesBeyond(NO_SUCH, 0, last, pipers + " pipers, seat", piper -> x.seat(piper, 1));
            CHECK.refusesBeyond(NO_SUCH, 0, last, pipers + " pipers, rest", piper -> x.rest(piper, true));
            CHECK.refusesBeyond(NO_SUCH, 0, last, pipers + " pipers, ofPiper", piper -> x.ofPiper(piper, 0));
            CHECK.refusesBeyond(NO_SUCH, 0, last, pipers + " pipers, beats twice", piper -> x.beats(piper, piper));
            if (pipers > 0) {
                CHECK.refusesBeyond(NO_SUCH, 0, last, pipers + " pipers, beats of", piper -> x.beats(piper, 0));
                CHECK.refusesBeyond(NO_SUCH, 0, last, pipers + " pipers, beats to", piper -> x.beats(0, piper));
                CHECK.answers(5, "seat of the last of " + pipers, () -> x.seat(last, 5));
                CHECK.answers(5, "pitch of the last of " + pipers, () -> x.ofPiper(last, 0));
                CHECK.answers(0f, "beats of the last of " + pipers, () -> x.beats(last, last));
                CHECK.answers(false, "rest of the last of " + pipers, () -> x.rest(last, true));
            }
        }
    }

    private static void reeds() {
        CHECK.sentence("`reed`: -100 to 100");
        Dronegrade x = new Dronegrade();
        CHECK.refusesBeyond(BAD, -100, 100, "reed", reed -> x.piper(reed, 20, 0));
        CHECK.answers(0, "reed -100", () -> x.piper(-100, 20, 0));
        CHECK.answers(1, "reed 100", () -> x.piper(100, 20, 0));
        CHECK.answers(-100, "its reed", () -> x.ofPiper(0, 1));
        CHECK.answers(100, "its reed", () -> x.ofPiper(1, 1));
        CHECK.refuses(NO_SUCH, "the refused ones are not there", () -> x.ofPiper(2, 1));
    }

    private static void pressures() {
        CHECK.sentence("`pressure`: 10 to 40");
        Dronegrade x = new Dronegrade();
        CHECK.refusesBeyond(BAD, 10, 40, "pressure", pressure -> x.piper(0, pressure, 0));
        CHECK.refuses(BAD, "pressure 0", () -> x.piper(0, 0, 0));
        CHECK.answers(0, "pressure 10", () -> x.piper(0, 10, 0));
        CHECK.answers(1, "pressure 40", () -> x.piper(0, 40, 0));
        CHECK.answers(20, "its pitch", () -> x.ofPiper(0, 0));
        CHECK.answers(80, "its pitch", () -> x.ofPiper(1, 0));
    }

    private static void breaths() {
        CHECK.sentence("`breath`: 0 to 9");
        Dronegrade x = new Dronegrade();
        CHECK.refusesBeyond(BAD, 0, 9, "breath", breath -> x.piper(0, 20, breath));
        CHECK.answers(0, "breath 0", () -> x.piper(0, 20, 0));
        CHECK.answers(1, "breath 9", () -> x.piper(0, 20, 9));
        x.play(1, 0, 0);
        CHECK.answers(0, "its wet", () -> x.ofPiper(0, 4));
        CHECK.answers(9, "its wet", () -> x.ofPiper(1, 4));
    }

    private static void atFirst() {
        CHECK.sentence("a PIPER has a reed, a pressure and a breath, as told, a seat, warmth and wet, all 0 at first, "
            + "and plays, or RESTS; a PIPER plays at first.");
        Dronegrade x = pitched(50, 60);
        x.seat(0, 30);
        x.rest(0, true);
        x.play(5, 5, 5);
        x.piper(11, 20, 0);
        CHECK.answers(0, "seat", () -> x.ofPiper(2, 2));
        tells(x, "at first", 2, 11, 0, 0);
        CHECK.answers(51, "pitch", () -> x.ofPiper(2, 0));
        CHECK.answers(1, "plays: 51, less 60 + 15 - 25", x::spread);
        CHECK.answers(false, "does not rest", () -> x.rest(2, false));
    }

    private static void seatRange() {
        CHECK.sentence("Throws `IllegalArgumentException` if by is out of range, or the seat would not be from -100 to 100");
        Dronegrade x = pitched(40, 40);
        CHECK.answers(100, "0 by 100", () -> x.seat(0, 100));
        CHECK.refuses(BAD, "100 by 1", () -> x.seat(0, 1));
        CHECK.refuses(BAD, "100 by 100", () -> x.seat(0, 100));
        CHECK.answers(100, "100 by 0", () -> x.seat(0, 0));
        CHECK.answers(99, "100 by -1", () -> x.seat(0, -1));
        CHECK.refuses(BAD, "99 by 2", () -> x.seat(0, 2));
        CHECK.answers(100, "99 by 1", () -> x.seat(0, 1));
        CHECK.answers(-100, "0 by -100", () -> x.seat(1, -100));
        CHECK.refuses(BAD, "-100 by -1", () -> x.seat(1, -1));
        CHECK.refuses(BAD, "-100 by -100", () -> x.seat(1, -100));
        CHECK.answers(-100, "-100 by 0", () -> x.seat(1, 0));
        CHECK.answers(-99, "-100 by 1", () -> x.seat(1, 1));
        CHECK.refuses(BAD, "-99 by -2", () -> x.seat(1, -2));
        CHECK.answers(-100, "-99 by -1", () -> x.seat(1, -1));
        CHECK.answers(100, "the seat of 0 stays", () -> x.ofPiper(0, 2));
        CHECK.answers(-100, "the seat of 1 stays", () -> x.ofPiper(1, 2));
        CHECK.answers(200, "the pitches are 140 and -60", x::spread);
    }

    private static void byRange() {
        CHECK.sentence("`by`: -100 to 100");
        Dronegrade x = pitched(40, 40, 40);
        x.seat(1, 100);
        x.seat(2, -100);
        for (int i = 0; i < 3; i++) {
            int piper = i;
            CHECK.refusesBeyond(BAD, -100, 100, "piper " + i + ", by", by -> x.seat(piper, by));
        }
        CHECK.refuses(BAD, "-100 by 200, though the seat would be 100", () -> x.seat(2, 200));
        CHECK.refuses(BAD, "100 by -200, though the seat would be -100", () -> x.seat(1, -200));
        CHECK.refuses(BAD, "-100 by 101, though the seat would be 1", () -> x.seat(2, 101));
        CHECK.refuses(BAD, "100 by -101, though the seat would be -1", () -> x.seat(1, -101));
        CHECK.answers(0, "-100 by 100", () -> x.seat(2, 100));
        CHECK.answers(0, "100 by -100", () -> x.seat(1, -100));
    }

    private static void restWas() {
        CHECK.sentence("Returns whether it was.");
        Dronegrade x = pitched(40, 60);
        CHECK.answers(false, "plays, and shall play", () -> x.rest(0, false));
        CHECK.answers(false, "plays, and shall rest", () -> x.rest(0, true));
        CHECK.answers(true, "rests, and shall rest", () -> x.rest(0, true));
        CHECK.answers(0, "and rests", x::spread);
        CHECK.answers(true, "rests, and shall play", () -> x.rest(0, false));
        CHECK.answers(false, "plays, and shall play", () -> x.rest(0, false));
        CHECK.answers(20, "and plays", x::spread);
        x.play(1, 1, 1);
        CHECK.answers(false, "a minute changes nothing of it", () -> x.rest(0, true));
        x.play(1, 1, 1);
        CHECK.answers(true, "nor of one who rests", () -> x.rest(0, true));
    }

    private static void pitch() {
        CHECK.sentence("The pitch of a PIPER is the reed, the seat, twice the pressure and 3 times the warmth, together, less the wet.");
        Dronegrade x = new Dronegrade();
        x.piper(100, 40, 0);
        x.piper(-100, 10, 9);
        x.seat(0, 100);
        x.seat(1, -100);
        CHECK.answers(280, "the greatest one without warmth", () -> x.ofPiper(0, 0));
        CHECK.answers(-180, "the least one without wet", () -> x.ofPiper(1, 0));
        x.play(40, 0, 40);
        CHECK.answers(400, "the greatest one", () -> x.ofPiper(0, 0));
        x.play(40, 0, 0);
        CHECK.answers(-280, "the least one", () -> x.ofPiper(1, 0));
        x.rest(0, true);
        CHECK.answers(280, "whether one plays or not", () -> x.ofPiper(0, 0));
    }

    private static void minutes() {
        CHECK.sentence("`minutes`: 1 to 120");
        Dronegrade x = one(100, 0);
        CHECK.refusesBeyond(BAD, 1, 120, "play", minutes -> x.play(minutes, 1, 40));
        CHECK.refusesBeyond(BAD, 1, 120, "ahead", minutes -> x.ahead(minutes, 1, 40));
        CHECK.refuses(BAD, "play -1", () -> x.play(-1, 1, 40));
        tells(x, "no minute went by", 0, 100, 0, 0);
        CHECK.answers(0, "one minute", () -> x.play(1, 1, 40));
        tells(x, "one minute", 0, 100, 1, 1);
        CHECK.answers(0, "120 minutes", () -> x.play(120, 1, 40));
        tells(x, "121 minutes, of which 22 with 100", 0, 78, 40, 100);
    }

    private static void rains() {
        CHECK.sentence("`rain`: 0 to 9");
        Dronegrade x = one(0, 0);
        CHECK.refusesBeyond(BAD, 0, 9, "play, rain", rain -> x.play(1, rain, 40));
        CHECK.refusesBeyond(BAD, 0, 9, "ahead, rain", rain -> x.ahead(1, rain, 40));
        tells(x, "no minute went by", 0, 0, 0, 0);
        CHECK.answers(0, "rain 0", () -> x.play(1, 0, 0));
        tells(x, "rain 0", 0, 0, 0, 0);
        CHECK.answers(0, "rain 9", () -> x.play(1, 9, 0));
        tells(x, "rain 9", 0, 0, 0, 9);
    }

    private static void heats() {
        CHECK.sentence("`heat`: 0 to 40");
        Dronegrade x = one(0, 0);
        CHECK.refusesBeyond(BAD, 0, 40, "play, heat", heat -> x.play(1, 1, heat));
        CHECK.refusesBeyond(BAD, 0, 40, "ahead, heat", heat -> x.ahead(1, 1, heat));
        tells(x, "no minute went by", 0, 0, 0, 0);
        CHECK.answers(0, "heat 40", () -> x.play(120, 0, 40));
        tells(x, "heat 40", 0, 0, 40, 0);
        CHECK.answers(0, "heat 0", () -> x.play(120, 0, 0));
        tells(x, "heat 0", 0, 0, 0, 0);
    }

    private static void wetAtMost() {
        CHECK.sentence("who plays gets wet by the breath and the rain, together, to 100 at most");
        Dronegrade x = one(0, 9);
        x.play(11, 0, 0);
        tells(x, "99", 0, 0, 0, 99);
        x.play(1, 0, 0);
        tells(x, "99 and 9", 0, -1, 0, 100);
        x.play(1, 9, 0);
        tells(x, "100 and 18", 0, -2, 0, 100);
        Dronegrade y = one(0, 5);
        y.play(10, 5, 0);
        tells(y, "90 and 10", 0, -1, 0, 100);
        Dronegrade z = one(0, 0);
        z.play(120, 0, 0);
        tells(z, "no breath and no rain", 0, 0, 0, 0);
        Dronegrade w = one(0, 9);
        w.play(1, 9, 0);
        tells(w, "the most of a minute", 0, 0, 0, 18);
    }

    private static void wetAtLeast() {
        CHECK.sentence("who RESTS gets 2 less, to 0 at least;");
        for (int wet = 0; wet <= 4; wet++) {
            Dronegrade x = one(0, 1);
            for (int i = 0; i < wet; i++) {
                x.play(1, 0, 0);
            }
            x.rest(0, true);
            x.play(1, 9, 40);
            tells(x, wet + ", less 2", 0, 0, 0, Math.max(0, wet - 2));
        }
        Dronegrade y = one(0, 9);
        y.play(12, 0, 0);
        y.rest(0, true);
        y.play(1, 9, 0);
        tells(y, "100, less 2", 0, -1, 0, 98);
        y.play(48, 9, 0);
        tells(y, "100, less 98", 0, -1, 0, 2);
        y.play(120, 9, 0);
        tells(y, "100, less 338", 0, -1, 0, 0);
    }

    private static void warmthOfOneWhoPlays() {
        CHECK.sentence("then the warmth becomes 1 more, if it is below the heat, 1 less, if it is above it");
        for (int heat = 0; heat <= 8; heat++) {
            Dronegrade x = one(0, 0);
            x.play(4, 0, 4);
            tells(x, "4", 0, 0, 4, 0);
            int of = heat;
            CHECK.answers(0, "heat " + heat, () -> x.play(1, 0, of));
            tells(x, "4, and the heat " + heat, 0, 0, 4 + Integer.compare(heat, 4), 0);
        }
        Dronegrade y = one(0, 0);
        y.play(39, 0, 40);
        tells(y, "39 minutes", 0, 0, 39, 0);
        y.play(1, 0, 40);
        tells(y, "40 minutes", 0, 0, 40, 0);
        y.play(1, 0, 40);
        tells(y, "41 minutes", 0, 0, 40, 0);
        y.play(1, 0, 0);
        tells(y, "1 less", 0, 0, 39, 0);
        y.play(39, 0, 0);
        tells(y, "down to the heat", 0, 0, 0, 0);
        y.play(1, 0, 0);
        tells(y, "as the heat", 0, 0, 0, 0);
    }

    private static void warmthOfOneWhoRests() {
        CHECK.sentence("for one who RESTS 1 less, if it is above 0, whatever the heat;");
        for (int heat : new int[] {0, 1, 2, 3, 40}) {
            Dronegrade x = one(0, 0);
            x.play(2, 0, 2);
            x.rest(0, true);
            x.play(1, 0, heat);
            tells(x, "2, and the heat " + heat, 0, 0, 1, 0);
            x.play(1, 0, heat);
            tells(x, "1, and the heat " + heat, 0, 0, 0, 0);
            x.play(1, 0, heat);
            tells(x, "0, and the heat " + heat, 0, 0, 0, 0);
        }
    }

    private static void reedByWet() {
        CHECK.sentence("then the reed of one who plays and is wet by 100 becomes 1 less");
        Dronegrade x = one(50, 9);
        x.play(11, 0, 0);
        tells(x, "wet by 99", 0, 50, 0, 99);
        x.rest(0, true);
        x.play(1, 0, 0);
        x.rest(0, false);
        x.play(1, 0, 0);
        tells(x, "97 and 9", 0, 49, 0, 100);
        x.play(1, 0, 0);
        tells(x, "each minute", 0, 48, 0, 100);
        x.rest(0, true);
        x.play(1, 9, 0);
        tells(x, "who rests is not wet by 100 any more", 0, 48, 0, 98);
        x.play(10, 9, 0);
        tells(x, "and keeps the reed", 0, 48, 0, 78);
    }

    private static void reedAtLeast() {
        CHECK.sentence("becomes 1 less, to -100 at least.");
        for (int reed : new int[] {-98, -99, -100}) {
            Dronegrade x = one(reed, 9);
            x.play(11, 0, 0);
            tells(x, "wet by 99", 0, reed, 0, 99);
            for (int i = 1; i <= 3; i++) {
                x.play(1, 0, 0);
                tells(x, reed + ", less " + i, 0, Math.max(-100, reed - i), 0, 100);
            }
        }
        Dronegrade y = one(100, 9);
        y.play(12, 0, 0);
        y.play(120, 0, 0);
        y.play(78, 0, 0);
        tells(y, "199 minutes of 100", 0, -99, 0, 100);
        y.play(1, 0, 0);
        tells(y, "200 minutes of 100", 0, -100, 0, 100);
        y.play(120, 9, 40);
        tells(y, "320 minutes of 100", 0, -100, 40, 100);
    }

    private static void orderWithinAMinute() {
        CHECK.sentence("In each minute each PIPER, by numbers, does this:");
        Dronegrade x = new Dronegrade();
        x.piper(0, 10, 9);
        x.piper(0, 10, 8);
        x.piper(0, 10, 7);
        x.rest(2, true);
        x.play(11, 0, 3);
        tells(x, "11 minutes", 0, 0, 3, 99);
        tells(x, "11 minutes", 1, 0, 3, 88);
        tells(x, "11 minutes", 2, 0, 0, 0);
        x.play(1, 3, 4);
        tells(x, "the reed by the wet of this minute", 0, -1, 4, 100);
        tells(x, "each one's own wet, 99", 1, 0, 4, 99);
        tells(x, "who rests", 2, 0, 0, 0);
    }

    private static void minutesOneByOne() {
        CHECK.sentence("A minute has some rain and some heat.");
        Dronegrade whole = new Dronegrade();
        Dronegrade oneByOne = new Dronegrade();
        for (Dronegrade x : new Dronegrade[] {whole, oneByOne}) {
            x.piper(3, 20, 4);
            x.piper(-90, 33, 9);
            x.piper(7, 12, 0);
            x.rest(2, true);
        }
        whole.play(120, 3, 21);
        for (int i = 0; i < 120; i++) {
            oneByOne.play(1, 3, 21);
        }
        for (int i = 0; i < 3; i++) {
            for (int what = 0; what <= 5; what++) {
                int piper = i;
                int asked = what;
                CHECK.answers(whole.ofPiper(i, what), "120 minutes one by one", () -> oneByOne.ofPiper(piper, asked));
            }
        }
    }

    private static void playAnswers() {
        CHECK.sentence("Returns the spread then.");
        Dronegrade x = new Dronegrade();
        CHECK.answers(0, "no pipers", () -> x.play(1, 0, 0));
        x.piper(0, 20, 9);
        CHECK.answers(0, "one piper", () -> x.play(1, 0, 0));
        x.piper(0, 20, 0);
        CHECK.answers(18, "two pipers, behind the minute", () -> x.play(1, 0, 0));
        x.rest(0, true);
        CHECK.answers(0, "one plays", () -> x.play(1, 0, 0));
        x.rest(1, true);
        CHECK.answers(0, "nobody plays", () -> x.play(120, 9, 40));
        x.rest(0, false);
        x.rest(1, false);
        CHECK.answers(9, "both play", () -> x.play(1, 0, 0));
    }

    private static void ofPiperWhats() {
        CHECK.sentence("Throws `IllegalArgumentException` if what is out of range");
        Dronegrade x = new Dronegrade();
        x.piper(7, 11, 1);
        x.piper(0, 10, 0);
        x.seat(0, 30);
        x.play(4, 1, 3);
        int[] due = {7 + 30 + 22 + 9 - 8, 7, 30, 3, 8, 25 - 60};
        for (int what = 0; what <= 5; what++) {
            int asked = what;
            CHECK.answers(due[what], "what " + what, () -> x.ofPiper(0, asked));
        }
        CHECK.refusesBeyond(BAD, 0, 5, "what", what -> x.ofPiper(0, what));
        CHECK.refusesBeyond(NO_SUCH, 0, 5, "no such piper, what", what -> x.ofPiper(2, what));
    }

    private static void spread() {
        CHECK.sentence("The spread is the greatest pitch, less the least one, of those who play; 0 if nobody plays.");
        CHECK.answers(0, "no pipers", () -> new Dronegrade().spread());
        CHECK.answers(0, "one, above 0", () -> pitched(100).spread());
        CHECK.answers(0, "one, below 0", () -> pitched(-50).spread());
        CHECK.answers(0, "two alike", () -> pitched(50, 50).spread());
        CHECK.answers(1, "two", () -> pitched(50, 51).spread());
        CHECK.answers(1, "two, the other way", () -> pitched(51, 50).spread());
        CHECK.answers(60, "below 0 and above", () -> pitched(-20, 40).spread());
        CHECK.answers(40, "all below 0", () -> pitched(-20, -60, -30).spread());
        CHECK.answers(140, "eight, the first the least, the last the greatest", () -> pitched(0, 9, 9, 9, 9, 9, 9, 140).spread());
        CHECK.answers(140, "eight, the other way", () -> pitched(140, 9, 9, 9, 9, 9, 9, 0).spread());
        Dronegrade x = pitched(10, 30, 60);
        x.rest(0, true);
        CHECK.answers(30, "the least one rests", x::spread);
        x.rest(2, true);
        CHECK.answers(0, "one plays", x::spread);
        x.rest(1, true);
        CHECK.answers(0, "nobody plays", x::spread);
        x.rest(2, false);
        x.rest(0, false);
        CHECK.answers(50, "the one between rests", x::spread);
    }

    private static void odd() {
        CHECK.sentence("The odd one is the one of those who play without whom the spread of the others is the least, "
            + "of several the lowest; NONE if fewer than 2 play.");
        CHECK.answers(Dronegrade.NONE, "no pipers", () -> new Dronegrade().odd());
        CHECK.answers(Dronegrade.NONE, "one", () -> pitched(50).odd());
        CHECK.answers(0, "two: the others' spread is 0 both times", () -> pitched(50, 90).odd());
        CHECK.answers(0, "two, the other way", () -> pitched(90, 50).odd());
        CHECK.answers(0, "the first of three", () -> pitched(90, 50, 51).odd());
        CHECK.answers(1, "the second of three", () -> pitched(50, 90, 51).odd());
        CHECK.answers(2, "the last of three", () -> pitched(50, 51, 90).odd());
        CHECK.answers(2, "the lowest pitch of three", () -> pitched(50, 51, 10).odd());
        CHECK.answers(7, "the last of eight", () -> pitched(50, 51, 52, 53, 54, 55, 56, 90).odd());
        CHECK.answers(1, "without 90 it is 4, without 50 it is 38", () -> pitched(52, 90, 54, 50).odd());
    }

    private static void oddOfSeveral() {
        CHECK.answers(0, "all alike", () -> pitched(50, 50, 50).odd());
        CHECK.answers(0, "both ends twice: no one makes it less", () -> pitched(50, 90, 90, 50).odd());
        CHECK.answers(0, "as far above as below", () -> pitched(60, 50, 40).odd());
        CHECK.answers(1, "as far above as below, the middle first", () -> pitched(50, 40, 60).odd());
        CHECK.answers(1, "the same, the other way", () -> pitched(50, 60, 40).odd());
        CHECK.answers(2, "the greatest twice: the least one alone makes it less", () -> pitched(90, 90, 30, 50).odd());
        CHECK.answers(3, "the least twice: the greatest one alone makes it less", () -> pitched(30, 50, 30, 90).odd());
    }

    private static void oddOfThoseWhoPlay() {
        Dronegrade x = pitched(0, 50, 90, 51);
        CHECK.answers(0, "all play", x::odd);
        x.rest(0, true);
        CHECK.answers(2, "one who rests is neither odd nor of the others", x::odd);
        x.rest(2, true);
        CHECK.answers(1, "two play: the lower number of them", x::odd);
        x.rest(1, true);
        CHECK.answers(Dronegrade.NONE, "one plays", x::odd);
        x.rest(3, true);
        CHECK.answers(Dronegrade.NONE, "nobody plays", x::odd);
        Dronegrade y = pitched(70, 50, 50, 50);
        y.rest(0, true);
        CHECK.answers(1, "one who rests is not the lowest of several alike", y::odd);
        Dronegrade z = pitched(70, 50, 90, 90, 50);
        z.rest(0, true);
        CHECK.answers(1, "nor of several without whom the spread is as it was", z::odd);
    }

    private static void toMiddle(String what, Dronegrade x, int... due) {
        for (int i = 0; i < due.length; i++) {
            int piper = i;
            CHECK.answers(due[i], what + ": ofPiper(" + i + ", 5)", () -> x.ofPiper(piper, 5));
        }
    }

    private static void middle() {
        CHECK.sentence("The middle is, of the pitches of those who play, put by size from the least one on, alike ones each by itself, "
            + "the one with as many ahead of it as behind it, or, if there is none, the one with one fewer ahead of it than behind it.");
        toMiddle("one", pitched(50), 0);
        toMiddle("two: the lower", pitched(50, 58), 0, -8);
        toMiddle("two, the other way", pitched(58, 50), -8, 0);
        toMiddle("three", pitched(50, 70, 58), 8, -12, 0);
        toMiddle("four: the second", pitched(80, 50, 70, 58), -22, 8, -12, 0);
        toMiddle("five: the third", pitched(80, 50, 70, 58, 90), -10, 20, 0, 12, -20);
        toMiddle("seven: the fourth", pitched(17, 16, 15, 14, 13, 12, 11), -3, -2, -1, 0, 1, 2, 3);
        toMiddle("eight: the fourth", pitched(18, 17, 16, 15, 14, 13, 12, 11), -4, -3, -2, -1, 0, 1, 2, 3);
        toMiddle("alike ones, the least twice", pitched(50, 50, 90), 0, 0, -40);
        toMiddle("alike ones, the greatest twice", pitched(50, 90, 90), 40, 0, 0);
        toMiddle("alike ones of four", pitched(50, 50, 50, 90), 0, 0, 0, -40);
        toMiddle("alike ones of four, above", pitched(50, 90, 90, 90), 40, 0, 0, 0);
        toMiddle("two times two", pitched(50, 90, 50, 90), 0, -40, 0, -40);
        toMiddle("all alike", pitched(50, 50, 50, 50), 0, 0, 0, 0);
        toMiddle("below 0", pitched(-30, -10, -20), 10, -10, 0);
    }

    private static void middleOfThoseWhoPlay() {
        CHECK.sentence("by how much the seat would have to be more so that the pitch would be the middle, as that is now, "
            + "which can be below 0, and is told of one who RESTS, too; 0 if nobody plays");
        Dronegrade x = pitched(50, 60, 75);
        x.rest(2, true);
        toMiddle("one who rests does not count", x, 0, -10, -25);
        x.rest(2, false);
        x.rest(0, true);
        toMiddle("one who rests is told of", x, 10, 0, -15);
        x.rest(1, true);
        toMiddle("one plays", x, 25, 15, 0);
        x.rest(2, true);
        toMiddle("nobody plays", x, 0, 0, 0);
        x.play(1, 9, 40);
        toMiddle("nobody plays a minute", x, 0, 0, 0);
    }

    private static void middleAsItIsNow() {
        Dronegrade x = pitched(50, 60, 75);
        toMiddle("ahead", x, 10, 0, -15);
        x.seat(0, 10);
        toMiddle("the seat that much more", x, 0, 0, -15);
        x.seat(1, 40);
        toMiddle("the middle is another one", x, 15, -25, 0);
        Dronegrade y = new Dronegrade();
        y.piper(100, 40, 0);
        y.piper(-100, 10, 9);
        y.seat(0, 100);
        y.seat(1, -100);
        toMiddle("more than a seat can be", y, -460, 0);
        y.rest(1, true);
        toMiddle("more than a seat can be, above 0", y, 0, 460);
    }

    private static void beats() {
        CHECK.sentence("Beats of two PIPERS are a float: 480 times how far their pitches are apart, as a float, divided by 1731, as a float.");
        for (int apart = 0; apart <= 200; apart++) {
            Dronegrade x = new Dronegrade();
            x.piper(-100, 20, 0);
            x.piper(-100 + apart, 20, 0);
            float due = 480f * (float) apart / 1731f;
            CHECK.answers(due, "beats, " + apart + " apart", () -> x.beats(0, 1));
            CHECK.answers(due, "beats, " + apart + " apart, the other way", () -> x.beats(1, 0));
        }
        Dronegrade y = pitched(-20, 30);
        CHECK.answers(0f, "the same twice", () -> y.beats(0, 0));
        CHECK.answers(24000f / 1731f, "one below 0", () -> y.beats(0, 1));
    }

    private static void beatsGreatest() {
        CHECK.sentence("Returns the beats of two PIPERS, whether they play or not.");
        Dronegrade x = new Dronegrade();
        x.piper(100, 40, 0);
        x.piper(-100, 10, 9);
        x.seat(0, 100);
        x.seat(1, -100);
        x.play(12, 0, 0);
        float due = 480f * 560f / 1731f;
        CHECK.answers(due, "both play", () -> x.beats(0, 1));
        x.rest(0, true);
        CHECK.answers(due, "one rests", () -> x.beats(0, 1));
        CHECK.answers(due, "one rests, the other way", () -> x.beats(1, 0));
        x.rest(1, true);
        CHECK.answers(due, "both rest", () -> x.beats(1, 0));
    }

    private static void ahead() {
        CHECK.sentence("Returns what the spread would be behind some minutes.");
        Dronegrade x = new Dronegrade();
        CHECK.answers(0, "no pipers, the least of all", () -> x.ahead(1, 0, 0));
        CHECK.answers(0, "no pipers, the most of all", () -> x.ahead(120, 9, 40));
        x.piper(0, 20, 9);
        CHECK.answers(0, "one", () -> x.ahead(120, 9, 40));
        x.piper(0, 20, 0);
        CHECK.answers(9, "two, a minute", () -> x.ahead(1, 0, 0));
        CHECK.answers(9, "it changes nothing", () -> x.ahead(1, 0, 40));
        CHECK.answers(0, "nor the spread", x::spread);
        CHECK.answers(99, "11 minutes", () -> x.ahead(11, 0, 40));
        CHECK.answers(101, "12 minutes, and the reed", () -> x.ahead(12, 0, 40));
        CHECK.answers(200, "120 minutes, and the reed is the least", () -> x.ahead(120, 0, 40));
        tells(x, "it changes nothing", 0, 0, 0, 0);
        x.rest(0, true);
        CHECK.answers(0, "one rests, and goes on to rest", () -> x.ahead(120, 0, 40));
        x.rest(1, true);
        CHECK.answers(0, "nobody plays", () -> x.ahead(120, 9, 40));
        CHECK.answers(true, "both rest still", () -> x.rest(0, false) && x.rest(1, false));
    }

    private static void aheadIsLikePlay() {
        int[][] weathers = {{1, 0, 0}, {1, 9, 40}, {120, 0, 0}, {120, 9, 40}, {13, 2, 20}, {40, 0, 39}};
        for (int[] weather : weathers) {
            Dronegrade x = new Dronegrade();
            for (int i = 0; i < 8; i++) {
                x.piper(13 * i % 50 - 25, 10 + 7 * i % 31, i);
                x.seat(i, 11 * i % 30 - 15);
                x.rest(i, i % 3 == 1);
            }
            x.play(7, 3, 12);
            int due = x.ahead(weather[0], weather[1], weather[2]);
            CHECK.answers(due, "the same again", () -> x.ahead(weather[0], weather[1], weather[2]));
            CHECK.answers(due, "as it comes then", () -> x.play(weather[0], weather[1], weather[2]));
            CHECK.answers(due, "the spread then", x::spread);
        }
    }
}
