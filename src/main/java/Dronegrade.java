import java.util.ArrayList;

/**
 * Bands of pipes: tunes and what is played of them, a set of tunes, pipers and their pitch,
 * bands in grades, contests and seasons. What each call must do stands in ../shared/DOC.md.
 */
public final class Dronegrade {
    public static final int NONE = -1;
    public static final int MARCH = 0, STRATHSPEY = 1, REEL = 2, JIG = 3;
    public static final int PLAIN = 0, D = 1, E = 2, HIGH = 3, THUMB = 4, DOUBLING = 5, GRIP = 6, THROW = 7, BIRL = 8;

    private static final int MOST_TUNES = 10;
    private static final int MOST_NOTES = 64;
    private static final int MOST_PARTS = 8;
    private static final int MOST_IN_SET = 8;
    private static final int MOST_PIPERS = 8;
    private static final int MOST_BANDS = 8;
    private static final int JUDGES = 4;
    private static final int HIGHEST_GRADE = 1;
    private static final int LOWEST_GRADE = 5;
    private static final int[] POINTS_BY_RANK = {6, 4, 3, 2, 1, 1};

    private final ArrayList<Tune> tunes;
    private final ArrayList<Tune> set;
    private final int[] tempi;
    private final ArrayList<Piper> pipers;
    private final Piper trial;
    private final Pitches pitches;
    private final ArrayList<Band> bands;
    private boolean isContestOpen;
    private int missingMarks;

    public Dronegrade() {
        tunes = new ArrayList<Tune>();
        set = new ArrayList<Tune>();
        tempi = new int[MOST_IN_SET];
        pipers = new ArrayList<Piper>();
        trial = new Piper(0, 0, 0);
        pitches = new Pitches();
        bands = new ArrayList<Band>();
        isContestOpen = false;
        missingMarks = 0;
    }

    // ---- tunes

    public int tune(int kind) throws IllegalArgumentException, IllegalStateException {
        if (!isWithin(kind, MARCH, JIG)) {
            throw new IllegalArgumentException("kind is out of range");
        }
        if (tunes.size() >= MOST_TUNES) {
            throw new IllegalStateException("there are 10 tunes");
        }
        int number = tunes.size();
        tunes.add(new Tune(number, kind));
        return number;
    }

    public int note(int tune, int height, int length, int grace) throws IndexOutOfBoundsException, IllegalArgumentException, IllegalStateException {
        Tune writtenIn = tuneOfNumber(tune);
        if (!isWithin(height, 0, 8) || !isWithin(length, 1, 16) || !isWithin(grace, PLAIN, BIRL)) {
            throw new IllegalArgumentException("height, length or grace is out of range");
        }
        if (!writtenIn.canTake(height, length, grace)) {
            throw new IllegalStateException("the note cannot be written here");
        }
        return writtenIn.write(height, length, grace);
    }

    public int part(int tune, boolean isRepeated) throws IndexOutOfBoundsException, IllegalStateException {
        Tune endedIn = tuneOfNumber(tune);
        if (!endedIn.canEndPart()) {
            throw new IllegalStateException("the part cannot be ended");
        }
        return endedIn.endPart(isRepeated);
    }

    public int played(int tune, int place, int what) throws IndexOutOfBoundsException, IllegalArgumentException {
        Tune asked = tuneOfNumber(tune);
        if (place < 0 || place >= asked.playedCount) {
            throw new IndexOutOfBoundsException("not so many notes are played");
        }
        if (!isWithin(what, 0, 4)) {
            throw new IllegalArgumentException("what is out of range");
        }
        return asked.tellPlayed(place, what);
    }

    public int ofTune(int tune, int what) throws IndexOutOfBoundsException, IllegalArgumentException {
        Tune asked = tuneOfNumber(tune);
        if (!isWithin(what, 0, 6)) {
            throw new IllegalArgumentException("what is out of range");
        }
        return asked.tell(what);
    }

    public int alike(int one, int other) throws IndexOutOfBoundsException {
        Tune first = tuneOfNumber(one);
        return first.likenessByShifts(tuneOfNumber(other));
    }

    public int alikeAnew(int one, int other) throws IndexOutOfBoundsException {
        Tune first = tuneOfNumber(one);
        return first.likenessByBeginnings(tuneOfNumber(other));
    }

    private Tune tuneOfNumber(int number) throws IndexOutOfBoundsException {
        if (number < 0 || number >= tunes.size()) {
            throw new IndexOutOfBoundsException("no such tune");
        }
        return tunes.get(number);
    }

    // ---- the set

    public int follow(int tune, int tempo) throws IndexOutOfBoundsException, IllegalArgumentException, IllegalStateException {
        Tune next = tuneOfNumber(tune);
        if (!isWithin(tempo, 30, 600)) {
            throw new IllegalArgumentException("tempo is out of range");
        }
        int size = set.size();
        if (size >= MOST_IN_SET || size >= tempi.length || !mayFollow(next, tempo)) {
            throw new IllegalStateException("the tune may not follow");
        }
        set.add(next);
        tempi[size] = tempo;
        return size + 1;
    }

    public int drop() throws IllegalStateException {
        int size = set.size();
        if (size < 1) {
            throw new IllegalStateException("the set has no tunes");
        }
        return set.remove(size - 1).number;
    }

    public long time() {
        long thousandths = 0;
        for (int i = 0; i < set.size() && i < tempi.length; i++) {
            if (tempi[i] > 0) {
                thousandths += 60000L * set.get(i).unitsPlayed() / tempi[i];
            }
        }
        return thousandths;
    }

    private boolean mayFollow(Tune next, int tempo) {
        if (next.playedCount < 1) {
            return false;
        }
        int last = set.size() - 1;
        if (last < 0 || last >= tempi.length) {
            return true;
        }
        Tune before = set.get(last);
        if (before.kind == next.kind && tempo < tempi[last]) {
            return false;
        }
        return next.graceAt(0) != PLAIN || next.heightAt(0) != before.heightAt(before.playedCount - 1);
    }

    // ---- pipers

    public int piper(int reed, int pressure, int breath) throws IllegalArgumentException, IllegalStateException {
        if (!isWithin(reed, -100, 100) || !isWithin(pressure, 10, 40) || !isWithin(breath, 0, 9)) {
            throw new IllegalArgumentException("reed, pressure or breath is out of range");
        }
        if (pipers.size() >= MOST_PIPERS) {
            throw new IllegalStateException("there are 8 pipers");
        }
        pipers.add(new Piper(reed, pressure, breath));
        return pipers.size() - 1;
    }

    public int seat(int piper, int by) throws IndexOutOfBoundsException, IllegalArgumentException {
        Piper moved = piperOfNumber(piper);
        if (!isWithin(by, -100, 100) || !isWithin(moved.seat + by, -100, 100)) {
            throw new IllegalArgumentException("by, or the seat by it, is out of range");
        }
        moved.seat += by;
        return moved.seat;
    }

    public boolean rest(int piper, boolean isSo) throws IndexOutOfBoundsException {
        Piper told = piperOfNumber(piper);
        boolean wasSo = told.isResting;
        told.isResting = isSo;
        return wasSo;
    }

    public int play(int minutes, int rain, int heat) throws IllegalArgumentException {
        if (!isWeather(minutes, rain, heat)) {
            throw new IllegalArgumentException("minutes, rain or heat is out of range");
        }
        for (int i = 0; i < pipers.size(); i++) {
            pipers.get(i).goThrough(minutes, rain, heat);
        }
        return spreadWithout(NONE);
    }

    public int ofPiper(int piper, int what) throws IndexOutOfBoundsException, IllegalArgumentException {
        Piper asked = piperOfNumber(piper);
        if (!isWithin(what, 0, 5)) {
            throw new IllegalArgumentException("what is out of range");
        }
        return what == 5 ? seatToMiddle(asked) : asked.tell(what);
    }

    public int spread() {
        return spreadWithout(NONE);
    }

    public int odd() {
        gatherPitchesWithout(NONE);
        if (pitches.count < 2) {
            return NONE;
        }
        int oddOne = NONE;
        int leastSpread = 0;
        for (int i = 0; i < pipers.size(); i++) {
            if (pipers.get(i).isResting) {
                continue;
            }
            int spreadOfOthers = spreadWithout(i);
            if (oddOne == NONE || spreadOfOthers < leastSpread) {
                oddOne = i;
                leastSpread = spreadOfOthers;
            }
        }
        return oddOne;
    }

    public float beats(int one, int other) throws IndexOutOfBoundsException {
        int apart = piperOfNumber(one).pitch() - piperOfNumber(other).pitch();
        return (float) (480 * Math.abs(apart)) / 1731f;
    }

    public int ahead(int minutes, int rain, int heat) throws IllegalArgumentException {
        if (!isWeather(minutes, rain, heat)) {
            throw new IllegalArgumentException("minutes, rain or heat is out of range");
        }
        pitches.empty();
        for (int i = 0; i < pipers.size(); i++) {
            Piper piper = pipers.get(i);
            if (!piper.isResting) {
                trial.becomeLike(piper);
                trial.goThrough(minutes, rain, heat);
                pitches.put(trial.pitch());
            }
        }
        return pitches.range();
    }

    private Piper piperOfNumber(int number) throws IndexOutOfBoundsException {
        if (number < 0 || number >= pipers.size()) {
            throw new IndexOutOfBoundsException("no such piper");
        }
        return pipers.get(number);
    }

    private static boolean isWeather(int minutes, int rain, int heat) {
        return isWithin(minutes, 1, 120) && isWithin(rain, 0, 9) && isWithin(heat, 0, 40);
    }

    private void gatherPitchesWithout(int leftOut) {
        pitches.empty();
        for (int i = 0; i < pipers.size(); i++) {
            Piper piper = pipers.get(i);
            if (i != leftOut && !piper.isResting) {
                pitches.put(piper.pitch());
            }
        }
    }

    private int spreadWithout(int leftOut) {
        gatherPitchesWithout(leftOut);
        return pitches.range();
    }

    private int seatToMiddle(Piper piper) {
        gatherPitchesWithout(NONE);
        return pitches.count < 1 ? 0 : pitches.middle() - piper.pitch();
    }

    // ---- bands, contests

    public int band(int grade) throws IllegalArgumentException, IllegalStateException {
        if (!isWithin(grade, HIGHEST_GRADE, LOWEST_GRADE)) {
            throw new IllegalArgumentException("grade is out of range");
        }
        if (bands.size() >= MOST_BANDS) {
            throw new IllegalStateException("there are 8 bands");
        }
        int number = bands.size();
        bands.add(new Band(number, grade));
        return number;
    }

    public int contest(int grade) throws IllegalArgumentException, IllegalStateException {
        if (!isWithin(grade, HIGHEST_GRADE, LOWEST_GRADE)) {
            throw new IllegalArgumentException("grade is out of range");
        }
        int takingPart = bandsOfGrade(grade);
        if (isContestOpen || takingPart < 2) {
            throw new IllegalStateException("a contest is open, or too few bands have the grade");
        }
        for (int i = 0; i < bands.size(); i++) {
            Band band = bands.get(i);
            band.takesPart = band.grade == grade;
            band.forgetMarks();
        }
        isContestOpen = true;
        missingMarks = takingPart * JUDGES;
        return takingPart;
    }

    public int mark(int judge, int band, int mark) throws IndexOutOfBoundsException, IllegalArgumentException, IllegalStateException {
        if (!isWithin(judge, 0, JUDGES - 1)) {
            throw new IndexOutOfBoundsException("no such judge");
        }
        Band judged = bandOfNumber(band);
        if (!isWithin(mark, 0, 100)) {
            throw new IllegalArgumentException("mark is out of range");
        }
        if (!isContestOpen || !judged.takesPart || judged.markBy(judge) != NONE) {
            throw new IllegalStateException("the mark cannot be handed in");
        }
        judged.takeMark(judge, mark);
        missingMarks--;
        return missingMarks;
    }

    public int close() throws IllegalStateException {
        if (!isContestOpen || missingMarks > 0) {
            throw new IllegalStateException("no contest is open, or a mark is missing");
        }
        for (int i = 0; i < bands.size(); i++) {
            Band band = bands.get(i);
            band.forgetResult();
            if (band.takesPart) {
                findPlaces(band);
            }
        }
        int first = rankBands();
        isContestOpen = false;
        return first;
    }

    public int season() throws IllegalStateException {
        if (isContestOpen) {
            throw new IllegalStateException("a contest is open");
        }
        for (int grade = HIGHEST_GRADE; grade < LOWEST_GRADE; grade++) {
            sendUpFrom(grade + 1);
            sendDownFrom(grade);
        }
        int moved = 0;
        for (int i = 0; i < bands.size(); i++) {
            moved += bands.get(i).beginSeason() ? 1 : 0;
        }
        return moved;
    }

    public int ofBand(int band, int what) throws IndexOutOfBoundsException, IllegalArgumentException {
        Band asked = bandOfNumber(band);
        if (!isWithin(what, 0, 4)) {
            throw new IllegalArgumentException("what is out of range");
        }
        return asked.tell(what);
    }

    private Band bandOfNumber(int number) throws IndexOutOfBoundsException {
        if (number < 0 || number >= bands.size()) {
            throw new IndexOutOfBoundsException("no such band");
        }
        return bands.get(number);
    }

    private int bandsOfGrade(int grade) {
        int count = 0;
        for (int i = 0; i < bands.size(); i++) {
            count += bands.get(i).grade == grade ? 1 : 0;
        }
        return count;
    }

    private void findPlaces(Band band) {
        int sum = 0;
        for (int judge = 0; judge < JUDGES; judge++) {
            int place = 1;
            for (int i = 0; i < bands.size(); i++) {
                Band other = bands.get(i);
                if (other.takesPart && other.markBy(judge) > band.markBy(judge)) {
                    place++;
                }
            }
            band.takePlace(judge, place);
            sum += place;
        }
        band.sum = sum;
    }

    private int rankBands() {
        int first = NONE;
        for (int i = 0; i < bands.size(); i++) {
            Band band = bands.get(i);
            if (!band.takesPart) {
                continue;
            }
            int rank = 1 + bandsAheadOf(band);
            band.takeRank(rank);
            if (rank == 1) {
                first = i;
            }
        }
        return first;
    }

    private int bandsAheadOf(Band band) {
        int count = 0;
        for (int i = 0; i < bands.size(); i++) {
            Band other = bands.get(i);
            if (other.takesPart && other.isRankedAheadOf(band)) {
                count++;
            }
        }
        return count;
    }

    private void sendUpFrom(int grade) {
        int best = NONE;
        int mostPoints = 0;
        for (int i = 0; i < bands.size(); i++) {
            Band band = bands.get(i);
            if (band.grade == grade && band.points > mostPoints) {
                best = i;
                mostPoints = band.points;
            }
        }
        if (best >= 0 && best < bands.size()) {
            bands.get(best).nextGrade = grade - 1;
        }
    }

    private void sendDownFrom(int grade) {
        int worst = NONE;
        int fewestPoints = 0;
        for (int i = 0; i < bands.size(); i++) {
            Band band = bands.get(i);
            if (band.grade == grade && (worst == NONE || band.points <= fewestPoints)) {
                worst = i;
                fewestPoints = band.points;
            }
        }
        if (bandsOfGrade(grade) >= 2 && worst >= 0 && worst < bands.size()) {
            bands.get(worst).nextGrade = grade + 1;
        }
    }

    private static boolean isWithin(int value, int least, int most) {
        return value >= least && value <= most;
    }

    /** A tune: the notes as they are written, and, by their written places, as they are played. */
    private static final class Tune {
        private final int number;
        private final int kind;
        private final int[] heights;
        private final int[] lengths;
        private final int[] graces;
        private final int[] parts;
        private final int[] playedNotes;
        private int writtenCount;
        private int firstOpen;
        private int openUnits;
        private int partCount;
        private int playedCount;

        private Tune(int number, int kind) {
            this.number = number;
            this.kind = kind;
            heights = new int[MOST_NOTES];
            lengths = new int[MOST_NOTES];
            graces = new int[MOST_NOTES];
            parts = new int[MOST_NOTES];
            playedNotes = new int[MOST_NOTES * 2];
        }

        private int barUnits() {
            switch (kind) {
                case STRATHSPEY:
                    return 16;
                case JIG:
                    return 6;
                default:
                    return 8;
            }
        }

        private boolean canTake(int height, int length, int grace) {
            int leftInBar = barUnits() - unitsInOpenBar();
            return writtenCount < MOST_NOTES && length <= leftInBar && isLawful(height, grace);
        }

        private int openBars() {
            int bar = barUnits();
            return bar < 1 ? 0 : openUnits / bar;
        }

        /** 0 if the open notes fill whole bars. */
        private int unitsInOpenBar() {
            int bar = barUnits();
            return bar < 1 ? 0 : openUnits % bar;
        }

        private boolean isLawful(int height, int grace) {
            switch (grace) {
                case PLAIN:
                    return lastWrittenHeight() != height;
                case D:
                    return height < 4;
                case E:
                    return height < 5;
                case HIGH:
                    return height < 7;
                case THUMB:
                    return height < 8;
                case DOUBLING:
                    return height <= 6;
                case GRIP:
                    return height >= 1;
                case THROW:
                    return height == 4;
                case BIRL:
                    return height == 1;
                default:
                    return false;
            }
        }

        private int lastWrittenHeight() {
            int last = writtenCount - 1;
            return last >= 0 && last < heights.length ? heights[last] : NONE;
        }

        private int write(int height, int length, int grace) {
            int place = writtenCount;
            if (place >= 0 && place < MOST_NOTES) {
                heights[place] = height;
                lengths[place] = length;
                graces[place] = grace;
                openUnits += length;
                writtenCount++;
            }
            return writtenCount;
        }

        private boolean canEndPart() {
            return partCount < MOST_PARTS && firstOpen < writtenCount && unitsInOpenBar() == 0;
        }

        private int endPart(boolean isRepeated) {
            for (int i = firstOpen; i >= 0 && i < writtenCount && i < parts.length; i++) {
                parts[i] = partCount;
            }
            playOpenNotes();
            if (isRepeated) {
                playOpenNotes();
            }
            int bars = openBars();
            firstOpen = writtenCount;
            openUnits = 0;
            partCount++;
            return bars;
        }

        private void playOpenNotes() {
            for (int i = firstOpen; i < writtenCount && playedCount < playedNotes.length; i++) {
                playedNotes[playedCount] = i;
                playedCount++;
            }
        }

        /** What a row has of the note that is played at a place; NONE if none is. */
        private int ofPlayed(int[] row, int place) {
            if (place < 0 || place >= playedCount || place >= playedNotes.length) {
                return NONE;
            }
            int written = playedNotes[place];
            return written >= 0 && written < row.length ? row[written] : NONE;
        }

        private int heightAt(int place) {
            return ofPlayed(heights, place);
        }

        private int graceAt(int place) {
            return ofPlayed(graces, place);
        }

        private int unitsAhead(int place) {
            int units = 0;
            for (int i = 0; i < place && i < playedCount; i++) {
                units += ofPlayed(lengths, i);
            }
            return units;
        }

        private int unitsPlayed() {
            return unitsAhead(playedCount);
        }

        private int tellPlayed(int place, int what) {
            switch (what) {
                case 0:
                    return heightAt(place);
                case 1:
                    return ofPlayed(lengths, place);
                case 2:
                    return graceAt(place);
                case 3:
                    return unitsAhead(place);
                default:
                    return ofPlayed(parts, place);
            }
        }

        private int tell(int what) {
            switch (what) {
                case 0:
                    return kind;
                case 1:
                    return playedCount;
                case 2:
                    return unitsPlayed();
                case 3:
                    return clashes();
                case 4:
                    return smallNotes();
                case 5:
                    return partCount;
                default:
                    return writtenCount - firstOpen;
            }
        }

        private int clashes() {
            int count = 0;
            for (int i = 1; i < playedCount; i++) {
                if (graceAt(i) == PLAIN && heightAt(i) == heightAt(i - 1)) {
                    count++;
                }
            }
            return count;
        }

        private int smallNotes() {
            int count = 0;
            for (int i = 0; i < playedCount; i++) {
                count += smallNotesOf(graceAt(i));
            }
            return count;
        }

        private static int smallNotesOf(int grace) {
            switch (grace) {
                case PLAIN:
                    return 0;
                case DOUBLING:
                case GRIP:
                case THROW:
                    return 3;
                case BIRL:
                    return 4;
                default:
                    return 1;
            }
        }

        /** Lays the other tune along this one at every shift, and counts what agrees without a gap. */
        private int likenessByShifts(Tune other) {
            int most = 0;
            for (int shift = 1 - other.playedCount; shift < playedCount; shift++) {
                int run = 0;
                for (int i = Math.max(0, shift); i < playedCount && i - shift < other.playedCount; i++) {
                    run = heightAt(i) == other.heightAt(i - shift) ? run + 1 : 0;
                    most = Math.max(most, run);
                }
            }
            return most;
        }

        /** Leaves out only beginnings with too few notes behind them to be longer than what is found. */
        private int likenessByBeginnings(Tune other) {
            int most = 0;
            for (int i = 0; i + most < playedCount; i++) {
                for (int j = 0; j + most < other.playedCount; j++) {
                    most = Math.max(most, runFrom(i, other, j));
                }
            }
            return most;
        }

        private int runFrom(int place, Tune other, int otherPlace) {
            int run = 0;
            while (place + run < playedCount && otherPlace + run < other.playedCount
                    && heightAt(place + run) == other.heightAt(otherPlace + run)) {
                run++;
            }
            return run;
        }
    }

    /** A piper, who plays or rests, minute by minute. */
    private static final class Piper {
        private int reed;
        private int pressure;
        private int breath;
        private int seat;
        private int warmth;
        private int wet;
        private boolean isResting;

        private Piper(int reed, int pressure, int breath) {
            this.reed = reed;
            this.pressure = pressure;
            this.breath = breath;
        }

        private void becomeLike(Piper other) {
            reed = other.reed;
            pressure = other.pressure;
            breath = other.breath;
            seat = other.seat;
            warmth = other.warmth;
            wet = other.wet;
            isResting = other.isResting;
        }

        private int pitch() {
            return reed + seat + 2 * pressure + 3 * warmth - wet;
        }

        private void goThrough(int minutes, int rain, int heat) {
            for (int minute = 0; minute < minutes; minute++) {
                if (isResting) {
                    restAMinute();
                } else {
                    playAMinute(rain, heat);
                }
            }
        }

        private void restAMinute() {
            wet = Math.max(0, wet - 2);
            warmth = Math.max(0, warmth - 1);
        }

        private void playAMinute(int rain, int heat) {
            wet = Math.min(100, wet + breath + rain);
            if (warmth < heat) {
                warmth++;
            } else if (warmth > heat) {
                warmth--;
            }
            if (wet == 100) {
                reed = Math.max(-100, reed - 1);
            }
        }

        private int tell(int what) {
            switch (what) {
                case 0:
                    return pitch();
                case 1:
                    return reed;
                case 2:
                    return seat;
                case 3:
                    return warmth;
                default:
                    return wet;
            }
        }
    }

    /** Some pitches, put by size from the least one on. */
    private static final class Pitches {
        private final int[] row;
        private int count;

        private Pitches() {
            row = new int[MOST_PIPERS];
        }

        private void empty() {
            count = 0;
        }

        private void put(int pitch) {
            if (count < 0 || count >= row.length) {
                return;
            }
            int place = count;
            while (place > 0 && row[place - 1] > pitch) {
                row[place] = row[place - 1];
                place--;
            }
            row[place] = pitch;
            count++;
        }

        private int range() {
            return count < 1 || count > row.length ? 0 : row[count - 1] - row[0];
        }

        private int middle() {
            return count < 1 || count > row.length ? 0 : row[(count - 1) / 2];
        }
    }

    /** A band, with its marks and places in the contest that it takes part in, or last took part in. */
    private static final class Band {
        private final int number;
        private final int[] marks;
        private final int[] places;
        private int grade;
        private int nextGrade;
        private int points;
        private int rank;
        private int sum;
        private int firsts;
        private boolean takesPart;

        private Band(int number, int grade) {
            this.number = number;
            this.grade = grade;
            nextGrade = grade;
            rank = NONE;
            sum = NONE;
            marks = new int[JUDGES];
            places = new int[JUDGES];
        }

        private void forgetMarks() {
            for (int judge = 0; judge < marks.length; judge++) {
                marks[judge] = NONE;
            }
        }

        private int markBy(int judge) {
            return judge >= 0 && judge < marks.length ? marks[judge] : NONE;
        }

        private void takeMark(int judge, int mark) {
            if (judge >= 0 && judge < marks.length) {
                marks[judge] = mark;
            }
        }

        private int placeBy(int judge) {
            return judge >= 0 && judge < places.length ? places[judge] : NONE;
        }

        private void takePlace(int judge, int place) {
            if (judge >= 0 && judge < places.length) {
                places[judge] = place;
            }
        }

        private void forgetResult() {
            rank = NONE;
            sum = NONE;
        }

        private void takeRank(int newRank) {
            rank = newRank;
            if (rank == 1) {
                firsts++;
            }
            if (rank >= 1 && rank <= POINTS_BY_RANK.length) {
                points += POINTS_BY_RANK[rank - 1];
            }
        }

        private boolean isRankedAheadOf(Band other) {
            if (sum != other.sum) {
                return sum < other.sum;
            }
            if (placeBy(3) != other.placeBy(3)) {
                return placeBy(3) < other.placeBy(3);
            }
            int piping = placeBy(0) + placeBy(1);
            int pipingOfOther = other.placeBy(0) + other.placeBy(1);
            if (piping != pipingOfOther) {
                return piping < pipingOfOther;
            }
            return number < other.number;
        }

        /** Tells whether the grade is another one by that. */
        private boolean beginSeason() {
            boolean hasMoved = grade != nextGrade;
            grade = nextGrade;
            points = 0;
            return hasMoved;
        }

        private int tell(int what) {
            switch (what) {
                case 0:
                    return grade;
                case 1:
                    return points;
                case 2:
                    return rank;
                case 3:
                    return sum;
                default:
                    return firsts;
            }
        }
    }
}
