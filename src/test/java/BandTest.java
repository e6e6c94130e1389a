/** Promises 21 to 26: bands, contests and seasons. */
public final class BandTest {
    private static final Class<IndexOutOfBoundsException> NO_SUCH = IndexOutOfBoundsException.class;
    private static final Class<IllegalArgumentException> BAD = IllegalArgumentException.class;
    private static final Class<IllegalStateException> STATE = IllegalStateException.class;
    private static final Check CHECK = new Check("BandTest");

    public static void main(String[] args) {
        promise21Band();
        promise22Contest();
        promise23Mark();
        promise24Sums();
        promise24PointsOfEight();
        promise24LikeSums();
        promise24WrongState();
        promise25Season();
        promise25LikePoints();
        promise25AllAtOnce();
        promise26OfBand();
        CHECK.finish();
    }

    private static Dronegrade banded(int... grades) {
        Dronegrade x = new Dronegrade();
        for (int grade : grades) {
            x.band(grade);
        }
        return x;
    }

    /** Hands in, for each of the bands, its marks by the judges 0 to 3. */
    private static void markAll(Dronegrade x, int[] bands, int[]... marks) {
        for (int i = 0; i < bands.length; i++) {
            for (int judge = 0; judge < 4; judge++) {
                x.mark(judge, bands[i], marks[i][judge]);
            }
        }
    }

    /** A contest of which the bands come out in the order told. */
    private static int contestWon(Dronegrade x, int grade, int... order) {
        x.contest(grade);
        for (int i = 0; i < order.length; i++) {
            for (int judge = 0; judge < 4; judge++) {
                x.mark(judge, order[i], 90 - i);
            }
        }
        return x.close();
    }

    private static void tells(Dronegrade x, String what, int asked, int... due) {
        for (int i = 0; i < due.length; i++) {
            int band = i;
            CHECK.answers(due[i], what + ": ofBand(" + i + ", " + asked + ")", () -> x.ofBand(band, asked));
        }
    }

    private static void promise21Band() {
        Dronegrade x = new Dronegrade();
        for (int wrong : new int[] {Integer.MIN_VALUE, -1, 0, 6, Integer.MAX_VALUE}) {
            CHECK.refuses(BAD, "band(" + wrong + ")", () -> x.band(wrong));
        }
        int[] grades = {1, 2, 3, 4, 5, 5, 4, 3};
        for (int i = 0; i < 8; i++) {
            int grade = grades[i];
            CHECK.answers(i, "band " + i, () -> x.band(grade));
        }
        CHECK.refuses(STATE, "ninth band", () -> x.band(1));
        CHECK.refuses(BAD, "ninth band, of no grade", () -> x.band(0));
        tells(x, "grades", 0, grades);
        tells(x, "points", 1, 0, 0, 0, 0, 0, 0, 0, 0);
        CHECK.refuses(NO_SUCH, "the refused band is not there", () -> x.ofBand(8, 0));
    }

    private static void promise22Contest() {
        Dronegrade x = banded(5, 3, 5, 1, 5);
        for (int wrong : new int[] {Integer.MIN_VALUE, -1, 0, 6, Integer.MAX_VALUE}) {
            CHECK.refuses(BAD, "contest(" + wrong + ")", () -> x.contest(wrong));
        }
        CHECK.refuses(STATE, "no band", () -> x.contest(2));
        CHECK.refuses(STATE, "one band", () -> x.contest(3));
        CHECK.refuses(STATE, "nothing was opened", () -> x.close());
        CHECK.answers(3, "three bands", () -> x.contest(5));
        CHECK.refuses(STATE, "one is open", () -> x.contest(5));
        CHECK.refuses(BAD, "one is open, no grade", () -> x.contest(6));
        x.band(3);
        CHECK.refuses(STATE, "one of another grade is open", () -> x.contest(3));
        x.band(5);
        CHECK.refuses(STATE, "a band of later does not take part", () -> x.mark(0, 6, 50));
        CHECK.answers(11, "three times four marks", () -> x.mark(0, 0, 50));
        Dronegrade y = banded(1, 1);
        CHECK.answers(2, "two bands are enough", () -> y.contest(1));
        markAll(y, new int[] {0, 1}, new int[] {1, 1, 1, 1}, new int[] {2, 2, 2, 2});
        y.close();
        CHECK.answers(2, "the next one", () -> y.contest(1));
        CHECK.answers(7, "marks of the last one are gone", () -> y.mark(3, 1, 2));
    }

    private static void promise23Mark() {
        Dronegrade x = banded(4, 2, 4);
        CHECK.refuses(STATE, "no contest", () -> x.mark(0, 0, 0));
        x.contest(4);
        for (int wrong : new int[] {Integer.MIN_VALUE, -1, 4, Integer.MAX_VALUE}) {
            CHECK.refuses(NO_SUCH, "judge " + wrong, () -> x.mark(wrong, 0, 0));
            CHECK.refuses(NO_SUCH, "judge " + wrong + ", mark 101", () -> x.mark(wrong, 1, 101));
        }
        for (int wrong : new int[] {Integer.MIN_VALUE, -1, 3, Integer.MAX_VALUE}) {
            CHECK.refuses(NO_SUCH, "band " + wrong, () -> x.mark(0, wrong, 0));
            CHECK.refuses(NO_SUCH, "band " + wrong + ", mark -1", () -> x.mark(0, wrong, -1));
        }
        for (int wrong : new int[] {Integer.MIN_VALUE, -1, 101, Integer.MAX_VALUE}) {
            CHECK.refuses(BAD, "mark " + wrong, () -> x.mark(0, 0, wrong));
            CHECK.refuses(BAD, "mark " + wrong + " for one that takes no part", () -> x.mark(0, 1, wrong));
        }
        CHECK.refuses(STATE, "one that takes no part", () -> x.mark(0, 1, 50));
        CHECK.answers(7, "least mark", () -> x.mark(0, 0, 0));
        CHECK.refuses(STATE, "the mark 0 is there", () -> x.mark(0, 0, 1));
        CHECK.refuses(BAD, "the mark is there, 101", () -> x.mark(0, 0, 101));
        CHECK.answers(6, "greatest mark", () -> x.mark(0, 2, 100));
        CHECK.refuses(STATE, "the mark 100 is there", () -> x.mark(0, 2, 100));
        CHECK.answers(5, "judge 3", () -> x.mark(3, 2, 7));
        CHECK.answers(4, "judge 3, the other band", () -> x.mark(3, 0, 7));
        CHECK.answers(3, "judge 1", () -> x.mark(1, 0, 7));
        CHECK.answers(2, "judge 2", () -> x.mark(2, 0, 7));
        CHECK.answers(1, "judge 1, the other band", () -> x.mark(1, 2, 7));
        CHECK.answers(0, "the last mark", () -> x.mark(2, 2, 7));
        CHECK.refuses(STATE, "all marks are there", () -> x.mark(2, 2, 7));
        CHECK.answers(2, "the marks stay: 100 is better than 0", () -> x.close());
        CHECK.refuses(STATE, "the contest is closed", () -> x.mark(2, 2, 7));
        CHECK.refuses(BAD, "the contest is closed, mark 101", () -> x.mark(2, 2, 101));
    }

    private static void promise24Sums() {
        Dronegrade x = banded(2, 3, 2, 2);
        x.contest(2);
        markAll(x, new int[] {0, 2, 3}, new int[] {50, 60, 70, 80}, new int[] {50, 61, 69, 81}, new int[] {51, 60, 68, 79});
        CHECK.answers(2, "the first one", () -> x.close());
        tells(x, "sums: 2+2+1+2, 2+1+2+1, 1+2+3+3", 3, 7, -1, 6, 9);
        tells(x, "ranks", 2, 2, -1, 1, 3);
        tells(x, "points", 1, 4, 0, 6, 3);
        tells(x, "firsts", 4, 0, 0, 1, 0);
        x.band(3);
        CHECK.answers(4, "the contest of another grade", () -> contestWon(x, 3, 4, 1));
        tells(x, "sums of the latest one", 3, -1, 8, -1, -1, 4);
        tells(x, "ranks of the latest one", 2, -1, 2, -1, -1, 1);
        tells(x, "points are kept", 1, 4, 4, 6, 3, 6);
        tells(x, "firsts are kept", 4, 0, 0, 1, 0, 1);
    }

    private static void promise24PointsOfEight() {
        Dronegrade x = banded(1, 1, 1, 1, 1, 1, 1, 1);
        CHECK.answers(7, "the first of eight", () -> contestWon(x, 1, 7, 0, 6, 1, 5, 2, 4, 3));
        tells(x, "points of eight", 1, 4, 2, 1, 0, 0, 1, 3, 6);
        tells(x, "ranks of eight", 2, 2, 4, 6, 8, 7, 5, 3, 1);
        tells(x, "sums of eight", 3, 8, 16, 24, 32, 28, 20, 12, 4);
        contestWon(x, 1, 3, 0, 6, 1, 5, 2, 4, 7);
        tells(x, "points of two contests", 1, 8, 4, 2, 6, 0, 2, 6, 6);
        contestWon(x, 1, 3, 0, 6, 1, 5, 2, 4, 7);
        tells(x, "firsts of three contests", 4, 0, 0, 0, 2, 0, 0, 0, 1);
    }

    private static void promise24LikeSums() {
        Dronegrade x = banded(1, 1);
        x.contest(1);
        markAll(x, new int[] {0, 1}, new int[] {9, 9, 5, 5}, new int[] {8, 8, 6, 6});
        CHECK.answers(1, "sums 6 and 6: the judge 3 tells", () -> x.close());
        tells(x, "sums", 3, 6, 6);
        tells(x, "ranks", 2, 2, 1);
        Dronegrade y = banded(1, 1);
        y.contest(1);
        markAll(y, new int[] {0, 1}, new int[] {8, 9, 6, 5}, new int[] {9, 9, 5, 5});
        CHECK.answers(1, "sums 5 and 5, judge 3 alike: piping tells", () -> y.close());
        Dronegrade z = banded(1, 1, 1);
        z.contest(1);
        markAll(z, new int[] {0, 1, 2}, new int[] {8, 9, 5, 5}, new int[] {9, 8, 5, 5}, new int[] {9, 9, 5, 6});
        CHECK.answers(2, "the least sum", () -> z.close());
        tells(z, "all alike: numbers tell", 2, 2, 3, 1);
        tells(z, "their sums", 3, 7, 7, 4);
        Dronegrade w = banded(1, 1, 1);
        w.contest(1);
        markAll(w, new int[] {0, 1, 2}, new int[] {7, 9, 7, 5}, new int[] {9, 9, 5, 5}, new int[] {8, 7, 6, 5});
        CHECK.answers(1, "piping of both judges together", () -> w.close());
        tells(w, "sums: 3+1+1+1, 1+1+3+1, 2+3+2+1", 3, 6, 6, 8);
        tells(w, "ranks", 2, 2, 1, 3);
        Dronegrade v = banded(1, 1);
        v.contest(1);
        markAll(v, new int[] {0, 1}, new int[] {5, 5, 9, 9}, new int[] {9, 9, 5, 5});
        CHECK.answers(0, "the judge 3 tells ahead of piping", () -> v.close());
        Dronegrade u = banded(1, 1);
        u.contest(1);
        markAll(u, new int[] {0, 1}, new int[] {9, 5, 9, 5}, new int[] {5, 9, 5, 9});
        CHECK.answers(1, "the judge 3 tells, not 2", () -> u.close());
        Dronegrade t = banded(1, 1);
        t.contest(1);
        markAll(t, new int[] {0, 1}, new int[] {9, 5, 5, 9}, new int[] {5, 9, 9, 5});
        CHECK.answers(0, "the judge 3 tells, not 2, the other way", () -> t.close());
    }

    private static void promise24WrongState() {
        Dronegrade x = banded(1, 1);
        CHECK.refuses(STATE, "none is open", () -> x.close());
        x.contest(1);
        CHECK.refuses(STATE, "all marks are missing", () -> x.close());
        for (int judge = 0; judge < 4; judge++) {
            x.mark(judge, 0, 50);
        }
        for (int judge = 0; judge < 3; judge++) {
            x.mark(judge, 1, 51);
        }
        CHECK.refuses(STATE, "one mark is missing", () -> x.close());
        tells(x, "nothing changed", 2, -1, -1);
        tells(x, "nothing changed", 1, 0, 0);
        x.mark(3, 1, 51);
        CHECK.answers(1, "all marks are there", () -> x.close());
        CHECK.refuses(STATE, "closed already", () -> x.close());
        tells(x, "points come once", 1, 4, 6);
    }

    private static void promise25Season() {
        Dronegrade x = banded(2, 2, 2);
        x.contest(2);
        CHECK.refuses(STATE, "a contest is open", () -> x.season());
        markAll(x, new int[] {0, 1, 2}, new int[] {5, 5, 5, 5}, new int[] {6, 6, 6, 6}, new int[] {7, 7, 7, 7});
        CHECK.refuses(STATE, "a contest is open, though all marks are there", () -> x.season());
        x.close();
        CHECK.answers(2, "one up, one down", () -> x.season());
        tells(x, "grades", 0, 3, 2, 1);
        tells(x, "points", 1, 0, 0, 0);
        tells(x, "ranks stay", 2, 3, 2, 1);
        tells(x, "sums stay", 3, 12, 8, 4);
        tells(x, "firsts stay", 4, 0, 0, 1);
        CHECK.answers(0, "none moves without points, one in a grade", () -> x.season());
        tells(x, "grades stay", 0, 3, 2, 1);
        CHECK.answers(0, "a season of no bands", () -> new Dronegrade().season());
    }

    private static void promise25LikePoints() {
        Dronegrade x = banded(4, 4, 4);
        CHECK.answers(1, "no points: one down, of several the highest number", () -> x.season());
        tells(x, "grades", 0, 4, 4, 5);
        Dronegrade y = banded(1, 1, 5, 5);
        CHECK.answers(1, "none goes down from 5, none up without points", () -> y.season());
        tells(y, "grades", 0, 1, 2, 5, 5);
        Dronegrade z = banded(3, 3, 3);
        contestWon(z, 3, 2, 1, 0);
        contestWon(z, 3, 1, 2, 0);
        tells(z, "points", 1, 6, 10, 10);
        CHECK.answers(2, "of several the lowest number goes up", () -> z.season());
        tells(z, "grades", 0, 4, 2, 3);
        Dronegrade w = banded(5, 5);
        contestWon(w, 5, 1, 0);
        CHECK.answers(1, "up from 5, none down", () -> w.season());
        tells(w, "grades", 0, 5, 4);
        Dronegrade v = banded(1, 1);
        contestWon(v, 1, 1, 0);
        CHECK.answers(1, "none up from 1, one down", () -> v.season());
        tells(v, "grades", 0, 2, 1);
        Dronegrade u = banded(2, 2);
        contestWon(u, 2, 0, 1);
        contestWon(u, 2, 1, 0);
        CHECK.answers(2, "two alike: the lower up, the higher down", () -> u.season());
        tells(u, "grades", 0, 1, 3);
    }

    private static void promise25AllAtOnce() {
        Dronegrade x = banded(2, 2, 3, 3, 4, 4);
        contestWon(x, 2, 0, 1);
        contestWon(x, 3, 2, 3);
        contestWon(x, 4, 4, 5);
        CHECK.answers(6, "by grades as they are ahead of that", () -> x.season());
        tells(x, "grades", 0, 1, 3, 2, 4, 3, 5);
        CHECK.answers(1, "points were 0 again: 4 goes down alone", () -> x.season());
        tells(x, "grades of the second season", 0, 1, 3, 2, 4, 4, 5);
        Dronegrade y = banded(1, 2, 2);
        contestWon(y, 2, 1, 2);
        CHECK.answers(2, "the one of grade 1 is alone as the season ends", () -> y.season());
        tells(y, "grades", 0, 1, 1, 3);
        CHECK.answers(2, "now two have it", () -> y.contest(1));
    }

    private static void promise26OfBand() {
        Dronegrade x = new Dronegrade();
        CHECK.refuses(NO_SUCH, "no bands", () -> x.ofBand(0, 0));
        x.band(3);
        x.band(3);
        int[] due = {3, 0, -1, -1, 0};
        for (int what = 0; what < due.length; what++) {
            int asked = what;
            CHECK.answers(due[what], "a new band: ofBand(0, " + what + ")", () -> x.ofBand(0, asked));
        }
        for (int wrong : new int[] {Integer.MIN_VALUE, -1, 5, Integer.MAX_VALUE}) {
            CHECK.refuses(BAD, "what " + wrong, () -> x.ofBand(0, wrong));
            CHECK.refuses(NO_SUCH, "what " + wrong + ", no such band", () -> x.ofBand(2, wrong));
        }
        for (int wrong : new int[] {Integer.MIN_VALUE, -1, 2, Integer.MAX_VALUE}) {
            CHECK.refuses(NO_SUCH, "band " + wrong, () -> x.ofBand(wrong, 0));
        }
        contestWon(x, 3, 0, 1);
        x.band(3);
        CHECK.answers(-1, "a band of later has no rank", () -> x.ofBand(2, 2));
        CHECK.answers(-1, "a band of later has no sum", () -> x.ofBand(2, 3));
        x.contest(3);
        tells(x, "an open contest changes no rank", 2, 1, 2, -1);
        tells(x, "an open contest changes no sum", 3, 4, 8, -1);
        markAll(x, new int[] {0, 1, 2}, new int[] {5, 5, 5, 5}, new int[] {6, 6, 6, 6}, new int[] {7, 7, 7, 7});
        tells(x, "nor do its marks", 3, 4, 8, -1);
        x.close();
        tells(x, "the one that was closed does", 2, 3, 2, 1);
        tells(x, "the one that was closed does", 3, 12, 8, 4);
        tells(x, "firsts", 4, 1, 0, 1);
        tells(x, "points", 1, 9, 8, 6);
    }
}
