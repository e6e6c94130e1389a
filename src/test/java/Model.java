import java.util.ArrayList;
import java.util.Comparator;
import java.util.List;
import java.util.stream.Collectors;
import java.util.stream.IntStream;

/** The document once more, in the plainest words of the Java library, to hold the class against. */
final class Model {
    record Note(int height, int length, int grace, int part) { }

    static final class Tune {
        int kind;
        int parts;
        List<Note> written = new ArrayList<>();
        List<Note> open = new ArrayList<>();
        List<Note> played = new ArrayList<>();

        int bar() {
            return List.of(8, 16, 8, 6).get(kind);
        }

        int units() {
            return played.stream().mapToInt(Note::length).sum();
        }

        String heights() {
            return played.stream().map(note -> String.valueOf(note.height())).collect(Collectors.joining());
        }
    }

    record InSet(int tune, int tempo) { }

    static final class Piper {
        int reed;
        int pressure;
        int breath;
        int seat;
        int warmth;
        int wet;
        boolean rests;

        int pitch() {
            return reed + seat + pressure + pressure + warmth + warmth + warmth - wet;
        }

        Piper copy() {
            Piper copy = new Piper();
            copy.reed = reed;
            copy.pressure = pressure;
            copy.breath = breath;
            copy.seat = seat;
            copy.warmth = warmth;
            copy.wet = wet;
            copy.rests = rests;
            return copy;
        }

        void minute(int rain, int heat) {
            if (rests) {
                wet = wet < 2 ? 0 : wet - 2;
                warmth = warmth > 0 ? warmth - 1 : warmth;
                return;
            }
            wet = wet + breath + rain > 100 ? 100 : wet + breath + rain;
            warmth += Integer.compare(heat, warmth);
            reed -= wet == 100 && reed > -100 ? 1 : 0;
        }
    }

    static final class Band {
        int number;
        int grade;
        int points;
        int rank = -1;
        int sum = -1;
        int wins;
        List<Integer> places = new ArrayList<>();
    }

    private final List<Tune> tunes = new ArrayList<>();
    private final List<InSet> set = new ArrayList<>();
    private final List<Piper> pipers = new ArrayList<>();
    private final List<Band> bands = new ArrayList<>();
    private List<Band> entered;
    private final java.util.Map<List<Integer>, Integer> marks = new java.util.HashMap<>();

    private static void outOfBounds(boolean applies) {
        if (applies) {
            throw new IndexOutOfBoundsException();
        }
    }

    private static void argument(boolean applies) {
        if (applies) {
            throw new IllegalArgumentException();
        }
    }

    private static void state(boolean applies) {
        if (applies) {
            throw new IllegalStateException();
        }
    }

    private static void in(List<?> list, int number) {
        outOfBounds(number < 0 || number >= list.size());
    }

    private static boolean outside(int value, int least, int most) {
        return value < least || value > most;
    }

    int tune(int kind) {
        argument(outside(kind, 0, 3));
        state(tunes.size() == 10);
        Tune tune = new Tune();
        tune.kind = kind;
        tunes.add(tune);
        return tunes.size() - 1;
    }

    /** For a run's steering; 8 where there is no such tune. */
    int unitsToTheEndOfTheBar(int number) {
        if (outside(number, 0, tunes.size() - 1)) {
            return 8;
        }
        Tune tune = tunes.get(number);
        return tune.bar() - tune.open.stream().mapToInt(Note::length).sum() % tune.bar();
    }

    /** For a run's steering; nothing is lawful where there is no such tune, height or grace. */
    boolean isLawful(int number, int height, int grace) {
        return !outside(number, 0, tunes.size() - 1) && !outside(height, 0, 8) && !outside(grace, 0, 8)
            && lawful(tunes.get(number), height, grace);
    }

    private static boolean lawful(Tune tune, int height, int grace) {
        if (grace == 0) {
            return tune.written.isEmpty() || tune.written.get(tune.written.size() - 1).height() != height;
        }
        if (grace <= 4) {
            return List.of(4, 5, 7, 8).get(grace - 1) > height;
        }
        String heights = List.of("0123456", "12345678", "4", "1").get(grace - 5);
        return heights.indexOf('0' + height) >= 0;
    }

    int note(int number, int height, int length, int grace) {
        in(tunes, number);
        argument(outside(height, 0, 8) || outside(length, 1, 16) || outside(grace, 0, 8));
        Tune tune = tunes.get(number);
        int before = tune.open.stream().mapToInt(Note::length).sum();
        int barOfFirstUnit = before / tune.bar();
        int barOfLastUnit = (before + length - 1) / tune.bar();
        state(tune.written.size() == 64 || barOfFirstUnit != barOfLastUnit || !lawful(tune, height, grace));
        Note note = new Note(height, length, grace, tune.parts);
        tune.written.add(note);
        tune.open.add(note);
        return tune.written.size();
    }

    int part(int number, boolean isRepeated) {
        in(tunes, number);
        Tune tune = tunes.get(number);
        int units = tune.open.stream().mapToInt(Note::length).sum();
        state(tune.open.isEmpty() || units % tune.bar() != 0 || tune.parts == 8);
        for (int time = 0; time < (isRepeated ? 2 : 1); time++) {
            tune.played.addAll(tune.open);
        }
        tune.open.clear();
        tune.parts++;
        return units / tune.bar();
    }

    int played(int number, int place, int what) {
        in(tunes, number);
        List<Note> played = tunes.get(number).played;
        in(played, place);
        argument(outside(what, 0, 4));
        Note note = played.get(place);
        int units = played.subList(0, place).stream().mapToInt(Note::length).sum();
        return List.of(note.height(), note.length(), note.grace(), units, note.part()).get(what);
    }

    int ofTune(int number, int what) {
        in(tunes, number);
        argument(outside(what, 0, 6));
        Tune tune = tunes.get(number);
        List<Note> played = tune.played;
        int clashes = (int) IntStream.range(1, played.size())
            .filter(i -> played.get(i).grace() == 0 && played.get(i).height() == played.get(i - 1).height()).count();
        int small = played.stream().mapToInt(note -> List.of(0, 1, 1, 1, 1, 3, 3, 3, 4).get(note.grace())).sum();
        return List.of(tune.kind, played.size(), tune.units(), clashes, small, tune.parts, tune.open.size()).get(what);
    }

    int alike(int one, int other) {
        in(tunes, one);
        in(tunes, other);
        String heights = tunes.get(one).heights();
        String others = tunes.get(other).heights();
        int longest = 0;
        for (int from = 0; from < heights.length(); from++) {
            while (from + longest < heights.length() && others.contains(heights.substring(from, from + longest + 1))) {
                longest++;
            }
        }
        return longest;
    }

    int follow(int number, int tempo) {
        in(tunes, number);
        argument(outside(tempo, 30, 600));
        Tune tune = tunes.get(number);
        state(tune.played.isEmpty() || set.size() == 8);
        if (!set.isEmpty()) {
            InSet last = set.get(set.size() - 1);
            Tune before = tunes.get(last.tune());
            state(before.kind == tune.kind && tempo < last.tempo());
            Note first = tune.played.get(0);
            state(first.grace() == 0 && first.height() == before.played.get(before.played.size() - 1).height());
        }
        set.add(new InSet(number, tempo));
        return set.size();
    }

    int drop() {
        state(set.isEmpty());
        return set.remove(set.size() - 1).tune();
    }

    long time() {
        return set.stream().mapToLong(one -> 60000L * tunes.get(one.tune()).units() / one.tempo()).sum();
    }

    int piper(int reed, int pressure, int breath) {
        argument(outside(reed, -100, 100) || outside(pressure, 10, 40) || outside(breath, 0, 9));
        state(pipers.size() == 8);
        Piper piper = new Piper();
        piper.reed = reed;
        piper.pressure = pressure;
        piper.breath = breath;
        pipers.add(piper);
        return pipers.size() - 1;
    }

    int seat(int number, int by) {
        in(pipers, number);
        argument(outside(by, -100, 100));
        Piper piper = pipers.get(number);
        argument(outside(piper.seat + by, -100, 100));
        piper.seat += by;
        return piper.seat;
    }

    boolean rest(int number, boolean isSo) {
        in(pipers, number);
        boolean was = pipers.get(number).rests;
        pipers.get(number).rests = isSo;
        return was;
    }

    int play(int minutes, int rain, int heat) {
        argument(outside(minutes, 1, 120) || outside(rain, 0, 9) || outside(heat, 0, 40));
        for (int minute = 0; minute < minutes; minute++) {
            pipers.forEach(piper -> piper.minute(rain, heat));
        }
        return spread();
    }

    private static List<Integer> pitches(List<Piper> pipers) {
        return pipers.stream().filter(piper -> !piper.rests).map(Piper::pitch).sorted().collect(Collectors.toList());
    }

    private static int spreadOf(List<Piper> pipers) {
        List<Integer> pitches = pitches(pipers);
        return pitches.isEmpty() ? 0 : pitches.get(pitches.size() - 1) - pitches.get(0);
    }

    int ofPiper(int number, int what) {
        in(pipers, number);
        argument(outside(what, 0, 5));
        Piper piper = pipers.get(number);
        List<Integer> pitches = pitches(pipers);
        int middle = piper.pitch();
        for (int ahead = 0; ahead < pitches.size(); ahead++) {
            int behind = pitches.size() - 1 - ahead;
            if (ahead == behind || ahead == behind - 1) {
                middle = pitches.get(ahead);
            }
        }
        return List.of(piper.pitch(), piper.reed, piper.seat, piper.warmth, piper.wet, middle - piper.pitch()).get(what);
    }

    int spread() {
        return spreadOf(pipers);
    }

    int odd() {
        if (pitches(pipers).size() < 2) {
            return -1;
        }
        return IntStream.range(0, pipers.size()).boxed().filter(number -> !pipers.get(number).rests)
            .min(Comparator.comparing((Integer number) -> {
                List<Piper> others = new ArrayList<>(pipers);
                others.remove(number.intValue());
                return spreadOf(others);
            }).thenComparing(number -> number)).get();
    }

    float beats(int one, int other) {
        in(pipers, one);
        in(pipers, other);
        float apart = Math.abs(pipers.get(one).pitch() - pipers.get(other).pitch());
        return 480f * apart / 1731f;
    }

    int ahead(int minutes, int rain, int heat) {
        argument(outside(minutes, 1, 120) || outside(rain, 0, 9) || outside(heat, 0, 40));
        List<Piper> copies = pipers.stream().map(Piper::copy).collect(Collectors.toList());
        for (int minute = 0; minute < minutes; minute++) {
            copies.forEach(piper -> piper.minute(rain, heat));
        }
        return spreadOf(copies);
    }

    int band(int grade) {
        argument(outside(grade, 1, 5));
        state(bands.size() == 8);
        Band band = new Band();
        band.number = bands.size();
        band.grade = grade;
        bands.add(band);
        return band.number;
    }

    int contest(int grade) {
        argument(outside(grade, 1, 5));
        List<Band> those = bands.stream().filter(band -> band.grade == grade).collect(Collectors.toList());
        state(entered != null || those.size() < 2);
        entered = those;
        marks.clear();
        return those.size();
    }

    int mark(int judge, int number, int mark) {
        outOfBounds(outside(judge, 0, 3));
        in(bands, number);
        argument(outside(mark, 0, 100));
        state(entered == null || !entered.contains(bands.get(number)) || marks.containsKey(List.of(judge, number)));
        marks.put(List.of(judge, number), mark);
        return entered.size() * 4 - marks.size();
    }

    int close() {
        state(entered == null || marks.size() < entered.size() * 4);
        for (Band band : bands) {
            band.rank = -1;
            band.sum = -1;
        }
        for (Band band : entered) {
            band.places.clear();
            for (int judge = 0; judge < 4; judge++) {
                int by = judge;
                int own = marks.get(List.of(by, band.number));
                band.places.add(1 + (int) entered.stream().filter(other -> marks.get(List.of(by, other.number)) > own).count());
            }
            band.sum = band.places.stream().mapToInt(place -> place).sum();
        }
        List<Band> ranked = new ArrayList<>(entered);
        ranked.sort(Comparator.<Band>comparingInt(band -> band.sum).thenComparingInt(band -> band.places.get(3))
            .thenComparingInt(band -> band.places.get(0) + band.places.get(1)).thenComparingInt(band -> band.number));
        for (int i = 0; i < ranked.size(); i++) {
            ranked.get(i).rank = i + 1;
            ranked.get(i).points += i < 6 ? List.of(6, 4, 3, 2, 1, 1).get(i) : 0;
        }
        ranked.get(0).wins++;
        entered = null;
        return ranked.get(0).number;
    }

    int season() {
        state(entered != null);
        List<Band> up = new ArrayList<>();
        List<Band> down = new ArrayList<>();
        for (int grade = 1; grade <= 5; grade++) {
            int own = grade;
            List<Band> those = bands.stream().filter(band -> band.grade == own)
                .sorted(Comparator.<Band>comparingInt(band -> -band.points).thenComparingInt(band -> band.number))
                .collect(Collectors.toList());
            if (grade >= 2 && !those.isEmpty() && those.get(0).points > 0) {
                up.add(those.get(0));
            }
            if (grade <= 4 && those.size() >= 2) {
                down.add(those.get(those.size() - 1));
            }
        }
        up.forEach(band -> band.grade--);
        down.forEach(band -> band.grade++);
        bands.forEach(band -> band.points = 0);
        return up.size() + down.size();
    }

    int ofBand(int number, int what) {
        in(bands, number);
        argument(outside(what, 0, 4));
        Band band = bands.get(number);
        return List.of(band.grade, band.points, band.rank, band.sum, band.wins).get(what);
    }
}
