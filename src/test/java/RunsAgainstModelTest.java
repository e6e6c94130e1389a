import java.util.Arrays;

/** Long runs of calls on the class and on the model: each answer and each exception must be the same. */
public final class RunsAgainstModelTest {
    private static final int MOST_CALLS = 512;
    private static final int CALLS_OF_A_SWEEP = 32;
    private static final int RUNS_OF_EACH_PLAN = 400;
    private static final int[] EXTREMES = {Integer.MIN_VALUE, Integer.MIN_VALUE + 1, -101, -1, 9, 17, 41, 101, 121, 601,
        Integer.MAX_VALUE - 1, Integer.MAX_VALUE};

    private static final int[] TUNE_CALLS = {0, 1, 1, 1, 1, 1, 1, 1, 1, 1, 1, 1, 1, 1, 1, 1, 1, 1, 1, 1, 2, 2, 2, 2, 3, 3, 4, 4, 5, 6, 7, 7, 7, 8, 9};
    private static final int[] PIPER_CALLS = {10, 11, 11, 12, 12, 13, 13, 14, 14, 14, 15, 16, 17, 18};
    private static final int[] BAND_CALLS = {19, 20, 20, 20, 21, 21, 21, 22, 22, 23, 24, 24, 24, 24, 24, 24};

    private final Check check;
    private final boolean isNarrow;
    private long seed;
    private int calls;
    private Dronegrade real = new Dronegrade();
    private Model model = new Model();

    private RunsAgainstModelTest(Check check, long seed, boolean isNarrow) {
        this.check = check;
        this.seed = seed;
        this.isNarrow = isNarrow;
    }

    public static void main(String[] args) {
        Check check = new Check("RunsAgainstModelTest");
        int[] allCalls = new int[25];
        Arrays.setAll(allCalls, call -> call);
        int[][] plans = {TUNE_CALLS, PIPER_CALLS, BAND_CALLS, allCalls};
        for (int plan = 0; plan < plans.length; plan++) {
            for (int run = 0; run < RUNS_OF_EACH_PLAN; run++) {
                new RunsAgainstModelTest(check, plan * 1000003L + run, run % 2 == 0).run(plans[plan], plan + "/" + run);
            }
        }
        check.finish();
    }

    private void run(int[] plan, String name) {
        while (calls + CALLS_OF_A_SWEEP <= MOST_CALLS) {
            compare(plan[upTo(plan.length - 1)], name + " call " + calls);
        }
    }

    /** A fixed rule instead of a random source, so that each run is the same again. */
    private int upTo(int most) {
        seed = seed * 6364136223846793005L + 1442695040888963407L;
        return (int) Math.floorMod(seed >>> 33, most + 1L);
    }

    private int between(int least, int most) {
        if (upTo(39) == 0) {
            return EXTREMES[upTo(EXTREMES.length - 1)];
        }
        if (upTo(29) == 0) {
            return upTo(1) == 0 ? least - 1 : most + 1;
        }
        return least + upTo(most - least);
    }

    private int few(int most) {
        return between(0, isNarrow ? Math.min(most, 2) : most);
    }

    /** Mostly what does not go over the end of a bar, as hardly a part could be ended otherwise. */
    private int lengthOfNote(int tune) {
        int left = model.unitsToTheEndOfTheBar(tune);
        int chosen = upTo(9);
        if (chosen < 4) {
            return left;
        }
        return chosen < 8 ? 1 + upTo(left - 1) : between(1, 16);
    }

    /** Mostly a lawful one. */
    private int graceOfNote(int tune, int height) {
        int grace = between(0, 8);
        for (int tries = upTo(3); tries > 0 && !model.isLawful(tune, height, grace); tries--) {
            grace = between(0, 8);
        }
        return grace;
    }

    private int size(int wide) {
        return isNarrow ? Math.min(wide, 3) : wide;
    }

    private void same(String what, Check.Call due, Check.Call got) {
        calls++;
        check.tell(what, Check.outcome(due), Check.outcome(got));
    }

    private void compare(int call, String where) {
        if (call < 7) {
            compareTunes(call, where);
        } else if (call < 10) {
            compareSet(call, where);
        } else if (call < 19) {
            comparePipers(call, where);
        } else {
            compareBands(call, where);
        }
    }

    private void compareTunes(int call, String where) {
        int tune = few(9);
        if (call == 0) {
            int kind = between(0, 3);
            same(where + " tune(" + kind + ")", () -> model.tune(kind), () -> real.tune(kind));
        } else if (call == 1) {
            int height = between(0, size(8));
            int length = lengthOfNote(tune);
            int grace = graceOfNote(tune, height);
            same(where + " note(" + tune + ", " + height + ", " + length + ", " + grace + ")",
                () -> model.note(tune, height, length, grace), () -> real.note(tune, height, length, grace));
        } else if (call == 2) {
            boolean isRepeated = upTo(1) == 0;
            same(where + " part(" + tune + ", " + isRepeated + ")",
                () -> model.part(tune, isRepeated), () -> real.part(tune, isRepeated));
        } else if (call == 3) {
            int place = between(0, upTo(3) == 0 ? 127 : 20);
            int what = between(0, 4);
            same(where + " played(" + tune + ", " + place + ", " + what + ")",
                () -> model.played(tune, place, what), () -> real.played(tune, place, what));
        } else if (call == 4) {
            int what = between(0, 6);
            same(where + " ofTune(" + tune + ", " + what + ")", () -> model.ofTune(tune, what), () -> real.ofTune(tune, what));
        } else {
            int other = few(9);
            same(where + " alike(" + tune + ", " + other + ")", () -> model.alike(tune, other),
                call == 5 ? () -> real.alike(tune, other) : () -> real.alikeAnew(tune, other));
        }
    }

    private void compareSet(int call, String where) {
        if (call == 7) {
            int tune = few(9);
            int tempo = upTo(1) == 0 ? between(30, 600) : between(30, 34);
            same(where + " follow(" + tune + ", " + tempo + ")", () -> model.follow(tune, tempo), () -> real.follow(tune, tempo));
        } else if (call == 8) {
            same(where + " drop()", () -> model.drop(), () -> real.drop());
        } else {
            same(where + " time()", () -> model.time(), () -> real.time());
        }
    }

    private void comparePipers(int call, String where) {
        int piper = few(7);
        int other = few(7);
        int minutes = between(1, upTo(1) == 0 ? 120 : 5);
        int rain = between(0, 9);
        int heat = between(0, 40);
        if (call == 10) {
            int reed = isNarrow ? between(-3, 3) : between(-100, 100);
            int pressure = isNarrow ? between(20, 21) : between(10, 40);
            int breath = between(0, 9);
            same(where + " piper(" + reed + ", " + pressure + ", " + breath + ")",
                () -> model.piper(reed, pressure, breath), () -> real.piper(reed, pressure, breath));
        } else if (call == 11) {
            int by = between(-100, 100);
            same(where + " seat(" + piper + ", " + by + ")", () -> model.seat(piper, by), () -> real.seat(piper, by));
        } else if (call == 12) {
            boolean isSo = upTo(2) == 0;
            same(where + " rest(" + piper + ", " + isSo + ")", () -> model.rest(piper, isSo), () -> real.rest(piper, isSo));
        } else if (call == 13) {
            same(where + " play(" + minutes + ", " + rain + ", " + heat + ")",
                () -> model.play(minutes, rain, heat), () -> real.play(minutes, rain, heat));
        } else if (call == 14) {
            int what = between(0, 5);
            same(where + " ofPiper(" + piper + ", " + what + ")", () -> model.ofPiper(piper, what), () -> real.ofPiper(piper, what));
        } else if (call == 15) {
            same(where + " spread()", () -> model.spread(), () -> real.spread());
        } else if (call == 16) {
            same(where + " odd()", () -> model.odd(), () -> real.odd());
        } else if (call == 17) {
            same(where + " beats(" + piper + ", " + other + ")", () -> model.beats(piper, other), () -> real.beats(piper, other));
        } else {
            same(where + " ahead(" + minutes + ", " + rain + ", " + heat + ")",
                () -> model.ahead(minutes, rain, heat), () -> real.ahead(minutes, rain, heat));
        }
    }

    private void compareBands(int call, String where) {
        int band = between(0, 7);
        if (call == 19) {
            int grade = isNarrow ? 2 + upTo(1) : between(1, 5);
            same(where + " band(" + grade + ")", () -> model.band(grade), () -> real.band(grade));
        } else if (call == 20) {
            int grade = between(1, 5);
            same(where + " contest(" + grade + ")", () -> model.contest(grade), () -> real.contest(grade));
        } else if (call == 21) {
            handMarksIn(where);
        } else if (call == 22) {
            same(where + " close()", () -> model.close(), () -> real.close());
        } else if (call == 23) {
            same(where + " season()", () -> model.season(), () -> real.season());
        } else {
            int what = between(0, 4);
            same(where + " ofBand(" + band + ", " + what + ")", () -> model.ofBand(band, what), () -> real.ofBand(band, what));
        }
    }

    /** Mostly one mark; now and then all, as a contest would hardly ever be closed otherwise. */
    private void handMarksIn(String where) {
        if (upTo(5) > 0) {
            handMarkIn(where, between(0, 3), between(0, 7));
            return;
        }
        for (int i = 0; i < CALLS_OF_A_SWEEP; i++) {
            handMarkIn(where, i % 4, i / 4);
        }
    }

    private void handMarkIn(String where, int judge, int band) {
        int mark = isNarrow ? between(70, 71) : between(0, 100);
        same(where + " mark(" + judge + ", " + band + ", " + mark + ")",
            () -> model.mark(judge, band, mark), () -> real.mark(judge, band, mark));
    }
}
