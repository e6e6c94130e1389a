/** Boundary cases of bands, contests and seasons (promises 21 to 26), sentence by sentence of the document. */
public final class BandEdgesTest {
    private static final Class<IndexOutOfBoundsException> NO_SUCH = IndexOutOfBoundsException.class;
    private static final Class<IllegalArgumentException> BAD = IllegalArgumentException.class;
    private static final Class<IllegalStateException> STATE = IllegalStateException.class;
    private static final Check CHECK = new Check("BandEdgesTest");

    public static void main(String[] args) {
        grades();
        eightBands();
        numbersOfBands();
        atFirst();
        gradesOfContests();
        bandsOfContests();
        whoTakesPart();
        lateBands();
        oneContestAtMost();
        judges();
        marks();
        marksStay();
        missingMarks();
        marksOfTheLastContest();
        closeWhenAllMarksAreThere();
        places();
        sums();
        likeSumsByJudge3();
        likeSumsByPiping();
        likeSumsByNoPipingJudgeAlone();
        likeSumsByNumbers();
        points();
        pointsOfEachSize();
        closeAnswers();
        seasonOfNothing();
        seasonWhileOneIsOpen();
        up();
        upOfSeveral();
        down();
        downOfSeveral();
        upAndDown();
        allAtOnce();
        pointsBehindASeason();
        ofBandWhats();
        latestContest();
        firsts();
        CHECK.finish();
    }

    private static Dronegrade banded(int... grades) {
        Dronegrade x = new Dronegrade();
        for (int grade : grades) {
            x.band(grade);
        }
        return x;
    }

    private static Dronegrade bandsOf(int grade, int count) {
        Dronegrade x = new Dronegrade();
        for (int i = 0; i < count; i++) {
            x.band(grade);
        }
        return x;
    }

    /** The bands from 0 on, all of which take part, with their marks by the judges 0 to 3; not closed. */
    private static Dronegrade marked(int[]... marks) {
        Dronegrade x = bandsOf(3, marks.length);
        x.contest(3);
        markAll(x, marks);
        return x;
    }

    private static void markAll(Dronegrade x, int[]... marks) {
        for (int band = 0; band < marks.length; band++) {
            for (int judge = 0; judge < 4; judge++) {
                x.mark(judge, band, marks[band][judge]);
            }
        }
    }

    /** A contest of which the bands come out in the order told. */
    private static void ranked(Dronegrade x, int grade, int... order) {
        x.contest(grade);
        for (int i = 0; i < order.length; i++) {
            for (int judge = 0; judge < 4; judge++) {
                x.mark(judge, order[i], 90 - i);
            }
        }
        x.close();
    }

    private static void tells(Dronegrade x, String what, int asked, int... due) {
        for (int i = 0; i < due.length; i++) {
            int band = i;
            CHECK.answers(due[i], what + ": ofBand(" + i + ", " + asked + ")", () -> x.ofBand(band, asked));
        }
    }

    private static void grades() {
        CHECK.sentence("a BAND has a grade, 1 to 5, of which 1 is the highest");
        Dronegrade x = new Dronegrade();
        CHECK.refusesBeyond(BAD, 1, 5, "band of grade", x::band);
        CHECK.refuses(BAD, "band of grade -1", () -> x.band(-1));
        for (int grade = 1; grade <= 5; grade++) {
            int of = grade;
            CHECK.answers(grade - 1, "band of grade " + grade, () -> x.band(of));
        }
        CHECK.refusesBeyond(BAD, 1, 5, "band of grade", x::band);
        tells(x, "grades", 0, 1, 2, 3, 4, 5);
        CHECK.refuses(NO_SUCH, "the refused ones are not there", () -> x.ofBand(5, 0));
    }

    private static void eightBands() {
        CHECK.sentence("BANDS are numbered from 0, at most 8");
        Dronegrade x = new Dronegrade();
        for (int i = 0; i < 8; i++) {
            int grade = 1 + i % 5;
            CHECK.answers(i, "band " + i, () -> x.band(grade));
        }
        for (int grade = 1; grade <= 5; grade++) {
            int of = grade;
            CHECK.refuses(STATE, "a ninth band, of grade " + grade, () -> x.band(of));
        }
        CHECK.refuses(NO_SUCH, "no ninth band is there", () -> x.ofBand(8, 0));
        CHECK.answers(2, "two of grade 1", () -> x.contest(1));
        CHECK.refuses(STATE, "a ninth band, as a contest is open", () -> x.band(1));
    }

    private static void numbersOfBands() {
        CHECK.sentence("Throws `IndexOutOfBoundsException` if there is no such judge or BAND");
        for (int bands : new int[] {0, 1, 2, 7, 8}) {
            Dronegrade x = bandsOf(2, bands);
            int last = bands - 1;
            CHECK.refusesBeyond(NO_SUCH, 0, last, bands + " bands, ofBand", band -> x.ofBand(band, 0));
            CHECK.refusesBeyond(NO_SUCH, 0, last, bands + " bands, no contest, mark", band -> x.mark(0, band, 50));
            if (bands > 0) {
                CHECK.answers(2, "grade of the last of " + bands, () -> x.ofBand(last, 0));
                CHECK.refuses(STATE, "no contest, mark of the last of " + bands, () -> x.mark(0, last, 50));
            }
            if (bands > 1) {
                x.contest(2);
                CHECK.refusesBeyond(NO_SUCH, 0, last, bands + " bands, mark", band -> x.mark(0, band, 50));
                CHECK.answers(4 * bands - 1, "mark of the last of " + bands, () -> x.mark(3, last, 50));
            }
        }
    }

    private static void atFirst() {
        CHECK.sentence("and points, 0 at first.");
        Dronegrade x = banded(2, 2);
        ranked(x, 2, 1, 0);
        x.band(2);
        int[] due = {2, 0, -1, -1, 0};
        for (int what = 0; what < due.length; what++) {
            int asked = what;
            CHECK.answers(due[what], "a new band, ofBand(2, " + what + ")", () -> x.ofBand(2, asked));
        }
    }

    private static void gradesOfContests() {
        CHECK.sentence("Opens a CONTEST.");
        Dronegrade x = banded(1, 1, 5, 5);
        CHECK.refusesBeyond(BAD, 1, 5, "contest of grade", x::contest);
        CHECK.refuses(STATE, "the refused ones opened nothing", x::close);
        CHECK.answers(2, "contest of grade 1", () -> x.contest(1));
        CHECK.refusesBeyond(BAD, 1, 5, "one is open, contest of grade", x::contest);
        Dronegrade y = banded(1, 1, 5, 5);
        CHECK.answers(2, "contest of grade 5", () -> y.contest(5));
    }

    private static void bandsOfContests() {
        CHECK.sentence("Throws `IllegalStateException` if one is open, or fewer than 2 BANDS have the grade");
        Dronegrade x = banded();
        CHECK.refuses(STATE, "no bands", () -> x.contest(3));
        x.band(3);
        CHECK.refuses(STATE, "one band", () -> x.contest(3));
        x.band(2);
        x.band(4);
        CHECK.refuses(STATE, "one band, and others of other grades", () -> x.contest(3));
        CHECK.refuses(STATE, "no band of grade 1", () -> x.contest(1));
        x.band(3);
        CHECK.answers(2, "two bands", () -> x.contest(3));
        for (int count = 2; count <= 8; count++) {
            Dronegrade y = bandsOf(4, count);
            CHECK.answers(count, count + " bands", () -> y.contest(4));
        }
    }

    private static void whoTakesPart() {
        CHECK.sentence("the BANDS that have it as it is opened take part, no others.");
        Dronegrade x = banded(2, 3, 2, 1, 3, 2);
        CHECK.answers(3, "three of grade 2", () -> x.contest(2));
        for (int band : new int[] {1, 3, 4}) {
            CHECK.refuses(STATE, "band " + band + " has another grade", () -> x.mark(0, band, 50));
        }
        CHECK.answers(11, "band 0 takes part", () -> x.mark(0, 0, 50));
        CHECK.answers(10, "band 2 takes part", () -> x.mark(0, 2, 50));
        CHECK.answers(9, "band 5 takes part", () -> x.mark(0, 5, 50));
        Dronegrade y = banded(2, 2, 2);
        ranked(y, 2, 0, 1, 2);
        y.season();
        tells(y, "grades behind a season", 0, 1, 2, 3);
        y.band(2);
        CHECK.answers(2, "those who have it now", () -> y.contest(2));
        CHECK.refuses(STATE, "who had the grade before", () -> y.mark(0, 0, 50));
        CHECK.refuses(STATE, "who had the grade before", () -> y.mark(0, 2, 50));
        CHECK.answers(7, "who has it still", () -> y.mark(0, 1, 50));
    }

    private static void lateBands() {
        Dronegrade x = banded(2, 2);
        x.contest(2);
        x.band(2);
        CHECK.refuses(STATE, "a band that came as it was open", () -> x.mark(0, 2, 50));
        markAll(x, new int[] {5, 5, 5, 5}, new int[] {6, 6, 6, 6});
        CHECK.answers(1, "its marks are not missing", x::close);
        tells(x, "ranks", 2, 2, 1, -1);
        tells(x, "sums", 3, 8, 4, -1);
        tells(x, "points", 1, 4, 6, 0);
        CHECK.answers(3, "it takes part in the next one", () -> x.contest(2));
        CHECK.answers(11, "and has marks", () -> x.mark(0, 2, 50));
    }

    private static void oneContestAtMost() {
        CHECK.sentence("At most one is open.");
        Dronegrade x = banded(2, 2, 4, 4);
        x.contest(2);
        CHECK.refuses(STATE, "the same grade", () -> x.contest(2));
        CHECK.refuses(STATE, "another grade", () -> x.contest(4));
        CHECK.refuses(STATE, "the grade of no band", () -> x.contest(1));
        CHECK.answers(7, "the first one is still open", () -> x.mark(0, 0, 1));
        CHECK.refuses(STATE, "the same grade, as there is a mark", () -> x.contest(2));
        CHECK.answers(6, "the mark is still there", () -> x.mark(0, 1, 1));
        Dronegrade y = marked(new int[] {5, 5, 5, 5}, new int[] {6, 6, 6, 6});
        CHECK.refuses(STATE, "all marks are there, and it is not closed", () -> y.contest(3));
        y.close();
        CHECK.answers(2, "closed, so another one", () -> y.contest(3));
    }

    private static void judges() {
        CHECK.sentence("The judges are 0 and 1 for piping, 2 for drums, 3 for the whole.");
        Dronegrade x = banded(1, 1);
        CHECK.refusesBeyond(NO_SUCH, 0, 3, "no contest, judge", judge -> x.mark(judge, 0, 50));
        x.contest(1);
        CHECK.refusesBeyond(NO_SUCH, 0, 3, "judge", judge -> x.mark(judge, 0, 50));
        for (int judge = 0; judge <= 3; judge++) {
            int by = judge;
            CHECK.answers(7 - judge, "judge " + judge, () -> x.mark(by, 0, 50));
        }
        CHECK.refusesBeyond(NO_SUCH, 0, 3, "judge", judge -> x.mark(judge, 1, 50));
        CHECK.answers(3, "the refused ones handed nothing in", () -> x.mark(3, 1, 50));
    }

    private static void marks() {
        CHECK.sentence("A mark of a judge for a BAND that takes part, 0 to 100");
        Dronegrade x = banded(1, 1, 2);
        CHECK.refusesBeyond(BAD, 0, 100, "no contest, mark", mark -> x.mark(0, 0, mark));
        x.contest(1);
        CHECK.refusesBeyond(BAD, 0, 100, "mark", mark -> x.mark(0, 0, mark));
        CHECK.refusesBeyond(BAD, 0, 100, "of one that takes no part, mark", mark -> x.mark(0, 2, mark));
        CHECK.answers(7, "mark 0", () -> x.mark(0, 0, 0));
        CHECK.answers(6, "mark 100", () -> x.mark(0, 1, 100));
        CHECK.refusesBeyond(BAD, 0, 100, "there already, mark", mark -> x.mark(0, 0, mark));
        for (int judge = 1; judge <= 3; judge++) {
            x.mark(judge, 0, 1);
            x.mark(judge, 1, 0);
        }
        x.close();
        tells(x, "100 is higher than 0, and 1 than 0", 3, 2 + 3, 1 + 6, -1);
    }

    private static void marksStay() {
        CHECK.sentence("is handed in once, and stays.");
        Dronegrade x = banded(1, 1);
        x.contest(1);
        for (int judge = 0; judge <= 3; judge++) {
            int by = judge;
            x.mark(judge, 0, 0);
            for (int mark : new int[] {0, 1, 100}) {
                CHECK.refuses(STATE, "judge " + judge + ", 0 is there, mark " + mark, () -> x.mark(by, 0, mark));
            }
            CHECK.answers(6 - 2 * judge, "the other band's own mark", () -> x.mark(by, 1, 1));
            CHECK.refuses(STATE, "judge " + judge + ", 1 is there, mark 0", () -> x.mark(by, 1, 0));
        }
        CHECK.answers(1, "1 is higher than 0, though 100 was handed in", x::close);
        tells(x, "sums", 3, 8, 4);
    }

    private static void missingMarks() {
        CHECK.sentence("Returns how many marks are missing then.");
        for (int bands : new int[] {2, 3, 8}) {
            Dronegrade x = bandsOf(5, bands);
            x.contest(5);
            for (int i = 0; i < 4 * bands; i++) {
                int judge = i / bands;
                int band = i % bands;
                CHECK.answers(4 * bands - 1 - i, bands + " bands, mark " + i, () -> x.mark(judge, band, 50));
                CHECK.refuses(STATE, bands + " bands, mark " + i + " again", () -> x.mark(judge, band, 50));
            }
        }
    }

    private static void marksOfTheLastContest() {
        Dronegrade x = marked(new int[] {5, 5, 5, 5}, new int[] {6, 6, 6, 6});
        x.close();
        CHECK.refuses(STATE, "closed, a mark that is there", () -> x.mark(0, 0, 5));
        x.contest(3);
        CHECK.refuses(STATE, "the marks of the last one do not count", x::close);
        for (int i = 0; i < 8; i++) {
            int judge = i % 4;
            int band = i / 4;
            CHECK.answers(7 - i, "mark " + i + " is handed in anew", () -> x.mark(judge, band, 50 - band));
        }
        CHECK.answers(0, "by the marks of this one", x::close);
        tells(x, "firsts", 4, 1, 1);
    }

    private static void closeWhenAllMarksAreThere() {
        CHECK.sentence("When all marks are there, a CONTEST can be closed");
        Dronegrade x = banded(3, 3, 1);
        CHECK.refuses(STATE, "none is open", x::close);
        x.contest(3);
        for (int i = 0; i < 8; i++) {
            int judge = 3 - i % 4;
            int band = 1 - i / 4;
            CHECK.refuses(STATE, (8 - i) + " are missing", x::close);
            x.mark(judge, band, 0);
        }
        tells(x, "ranks, as it is not closed", 2, -1, -1, -1);
        tells(x, "points, as it is not closed", 1, 0, 0, 0);
        CHECK.answers(0, "none is missing", x::close);
        CHECK.refuses(STATE, "closed already", x::close);
        tells(x, "points, once", 1, 6, 4, 0);
        tells(x, "firsts, once", 4, 1, 0, 0);
    }

    private static void places() {
        CHECK.sentence("the place of a BAND by a judge is 1 and how many BANDS have a higher mark of that judge");
        Dronegrade x = marked(new int[] {100, 0, 50, 50}, new int[] {100, 0, 50, 50}, new int[] {99, 1, 50, 50});
        x.close();
        tells(x, "1+2+1+1, 1+2+1+1, 3+1+1+1", 3, 5, 5, 6);
        Dronegrade y = marked(new int[] {7, 7, 7, 7}, new int[] {7, 7, 7, 7}, new int[] {7, 7, 7, 7}, new int[] {7, 7, 7, 7});
        y.close();
        tells(y, "all alike", 3, 4, 4, 4, 4);
        Dronegrade z = marked(new int[] {9, 9, 9, 9}, new int[] {8, 9, 9, 9}, new int[] {8, 9, 9, 9}, new int[] {7, 9, 9, 9});
        z.close();
        tells(z, "1, 2, 2 and 4", 3, 4, 5, 5, 7);
    }

    private static void sums() {
        CHECK.sentence("its sum is that of its four places.");
        for (int judge = 0; judge <= 3; judge++) {
            int[] better = {50, 50, 50, 50};
            better[judge] = 51;
            Dronegrade x = marked(new int[] {50, 50, 50, 50}, better);
            CHECK.answers(1, "better by the judge " + judge + " alone", x::close);
            tells(x, "better by the judge " + judge + " alone", 3, 5, 4);
            tells(x, "better by the judge " + judge + " alone", 2, 2, 1);
        }
        Dronegrade y = bandsOf(1, 8);
        ranked(y, 1, 7, 6, 5, 4, 3, 2, 1, 0);
        tells(y, "from 32 to 4", 3, 32, 28, 24, 20, 16, 12, 8, 4);
    }

    private static void likeSumsByJudge3() {
        CHECK.sentence("BANDS are ranked by their sums, the least one first; of like sums by their places by the judge 3");
        for (int judge = 0; judge <= 2; judge++) {
            int[] byOther = {50, 50, 50, 50};
            int[] by3 = {50, 50, 50, 51};
            byOther[judge] = 51;
            Dronegrade x = marked(byOther, by3);
            CHECK.answers(1, "one by the judge " + judge + ", one by 3", x::close);
            tells(x, "like sums", 3, 5, 5);
            tells(x, "ranks", 2, 2, 1);
            Dronegrade y = marked(by3, byOther);
            CHECK.answers(0, "the other way", y::close);
        }
        Dronegrade z = marked(new int[] {50, 50, 51, 50}, new int[] {51, 50, 50, 50}, new int[] {49, 50, 50, 51});
        CHECK.answers(1, "a sum that is less counts first, though another one leads by 3", z::close);
        tells(z, "2+1+1+2, 1+1+2+2, 3+1+2+1", 3, 6, 6, 7);
        tells(z, "ranks", 2, 2, 1, 3);
    }

    private static void likeSumsByPiping() {
        CHECK.sentence("then by those of 0 and 1, together, the least first");
        for (int judge = 0; judge <= 1; judge++) {
            int[] byDrums = {50, 50, 51, 50};
            int[] byPiping = {50, 50, 50, 50};
            byPiping[judge] = 51;
            Dronegrade x = marked(byDrums, byPiping);
            CHECK.answers(1, "one by drums, one by the piping judge " + judge, x::close);
            tells(x, "like sums", 3, 5, 5);
            Dronegrade y = marked(byPiping, byDrums);
            CHECK.answers(0, "the other way", y::close);
        }
        Dronegrade z = marked(new int[] {52, 50, 50, 50}, new int[] {51, 51, 50, 50}, new int[] {50, 50, 51, 50});
        CHECK.answers(0, "1+2+2+1, 2+1+2+1, 3+2+1+1: piping together 3, 3 and 5", z::close);
        tells(z, "ranks", 2, 1, 2, 3);
        Dronegrade w = marked(new int[] {50, 52, 50, 50}, new int[] {51, 50, 50, 50}, new int[] {50, 51, 50, 50});
        w.close();
        tells(w, "2+1, 1+3, 2+2 by piping", 3, 5, 6, 6);
        tells(w, "4 and 4 together: the numbers", 2, 1, 2, 3);
    }

    private static void likeSumsByNoPipingJudgeAlone() {
        CHECK.sentence("then by those of 0 and 1, together, the least first");
        Dronegrade x = marked(new int[] {52, 50, 52, 50}, new int[] {51, 52, 51, 50}, new int[] {50, 51, 50, 50});
        CHECK.answers(1, "1+3+1+1, 2+1+2+1: not by the judge 0 alone", x::close);
        tells(x, "sums", 3, 6, 6, 9);
        tells(x, "ranks", 2, 2, 1, 3);
        Dronegrade y = marked(new int[] {50, 52, 52, 50}, new int[] {52, 51, 51, 50}, new int[] {51, 50, 50, 50});
        CHECK.answers(1, "3+1+1+1, 1+2+2+1: not by the judge 1 alone", y::close);
        tells(y, "sums", 3, 6, 6, 9);
        tells(y, "ranks", 2, 2, 1, 3);
    }

    private static void likeSumsByNumbers() {
        CHECK.sentence("then by numbers.");
        Dronegrade x = bandsOf(2, 8);
        x.contest(2);
        for (int i = 31; i >= 0; i--) {
            x.mark(i % 4, i / 4, 77);
        }
        CHECK.answers(0, "all alike, whoever is marked first", x::close);
        tells(x, "ranks", 2, 1, 2, 3, 4, 5, 6, 7, 8);
        tells(x, "points", 1, 6, 4, 3, 2, 1, 1, 0, 0);
        Dronegrade y = marked(new int[] {51, 50, 50, 50}, new int[] {50, 51, 50, 50});
        CHECK.answers(0, "like by piping together", y::close);
        Dronegrade z = marked(new int[] {50, 51, 50, 50}, new int[] {51, 50, 50, 50});
        CHECK.answers(0, "like by piping together, the other way", z::close);
    }

    private static void points() {
        CHECK.sentence("The first six, or as many as there are, get 6, 4, 3, 2, 1 and 1 points more.");
        Dronegrade x = bandsOf(4, 8);
        ranked(x, 4, 0, 1, 2, 3, 4, 5, 6, 7);
        tells(x, "once", 1, 6, 4, 3, 2, 1, 1, 0, 0);
        ranked(x, 4, 7, 6, 5, 4, 3, 2, 1, 0);
        tells(x, "more", 1, 6, 4, 4, 3, 3, 4, 4, 6);
        ranked(x, 4, 0, 1, 2, 3, 4, 5, 6, 7);
        ranked(x, 4, 0, 1, 2, 3, 4, 5, 6, 7);
        tells(x, "and more", 1, 18, 12, 10, 7, 5, 6, 4, 6);
    }

    private static void pointsOfEachSize() {
        int[] due = {6, 4, 3, 2, 1, 1, 0, 0};
        for (int bands = 2; bands <= 8; bands++) {
            Dronegrade x = bandsOf(5, bands);
            int[] order = new int[bands];
            for (int i = 0; i < bands; i++) {
                order[i] = i;
            }
            ranked(x, 5, order);
            for (int i = 0; i < bands; i++) {
                int band = i;
                CHECK.answers(due[i], "rank " + (i + 1) + " of " + bands + ": points", () -> x.ofBand(band, 1));
                CHECK.answers(i + 1, "rank " + (i + 1) + " of " + bands, () -> x.ofBand(band, 2));
                CHECK.answers(4 * (i + 1), "rank " + (i + 1) + " of " + bands + ": sum", () -> x.ofBand(band, 3));
            }
        }
    }

    private static void closeAnswers() {
        CHECK.sentence("Closes the CONTEST; returns the BAND that is ranked first. @throws IllegalStateException if none is open, "
            + "or a mark is missing");
        for (int first = 0; first < 3; first++) {
            Dronegrade x = banded(1, 4, 1, 1, 4);
            int[] bands = {0, 2, 3};
            int best = bands[first];
            x.contest(1);
            for (int i = 0; i < 12; i++) {
                int band = bands[i / 4];
                x.mark(i % 4, band, band == best ? 100 : 99);
            }
            CHECK.answers(best, "the number of the band, not its place in the contest", x::close);
        }
        Dronegrade y = marked(new int[] {0, 0, 0, 0}, new int[] {0, 0, 0, 0});
        CHECK.answers(0, "no marks above 0", y::close);
    }

    private static void seasonOfNothing() {
        CHECK.sentence("Ends a SEASON; returns how many BANDS have another grade by that. @throws IllegalStateException "
            + "if a CONTEST is open");
        CHECK.answers(0, "no bands", () -> new Dronegrade().season());
        Dronegrade x = banded(1, 2, 3, 4, 5);
        CHECK.answers(0, "one of each grade, without points", x::season);
        tells(x, "grades", 0, 1, 2, 3, 4, 5);
        CHECK.answers(0, "and again", x::season);
    }

    private static void seasonWhileOneIsOpen() {
        Dronegrade x = banded(2, 2, 3, 3);
        ranked(x, 3, 2, 3);
        x.contest(2);
        CHECK.refuses(STATE, "a contest is open", x::season);
        for (int judge = 0; judge < 4; judge++) {
            x.mark(judge, 0, 1);
            x.mark(judge, 1, 0);
        }
        CHECK.refuses(STATE, "all marks are there, and it is open", x::season);
        tells(x, "points", 1, 0, 0, 6, 4);
        tells(x, "grades", 0, 2, 2, 3, 3);
        x.close();
        CHECK.answers(4, "closed", x::season);
        tells(x, "grades", 0, 1, 3, 2, 4);
    }

    private static void up() {
        CHECK.sentence("of each grade from 2 to 5 the BAND with the most points, if they are above 0, goes up to the grade above");
        for (int grade = 1; grade <= 5; grade++) {
            Dronegrade x = bandsOf(grade, 3);
            ranked(x, grade, 2, 1, 0);
            int moved = grade == 1 || grade == 5 ? 1 : 2;
            CHECK.answers(moved, "grade " + grade, x::season);
            tells(x, "grade " + grade, 0, Math.min(5, grade + 1), grade, Math.max(1, grade - 1));
        }
        Dronegrade y = banded(5, 5, 5);
        CHECK.answers(0, "grade 5, without points", y::season);
        tells(y, "grade 5, without points", 0, 5, 5, 5);
        Dronegrade z = bandsOf(5, 8);
        ranked(z, 5, 0, 1, 2, 3, 4, 5, 6, 7);
        CHECK.answers(1, "one goes up, though six have points", z::season);
        tells(z, "one goes up", 0, 4, 5, 5, 5, 5, 5, 5, 5);
    }

    private static void upOfSeveral() {
        CHECK.sentence("of several the lowest number;");
        Dronegrade x = bandsOf(5, 4);
        ranked(x, 5, 3, 1, 2, 0);
        ranked(x, 5, 1, 3, 2, 0);
        tells(x, "points", 1, 4, 10, 6, 10);
        CHECK.answers(1, "two with 10 points", x::season);
        tells(x, "the lower of them", 0, 5, 4, 5, 5);
        Dronegrade y = bandsOf(5, 8);
        ranked(y, 5, 7, 6, 5, 4, 3, 2, 1, 0);
        ranked(y, 5, 0, 1, 2, 3, 4, 5, 6, 7);
        tells(y, "points", 1, 6, 4, 4, 3, 3, 4, 4, 6);
        CHECK.answers(1, "the first and the last with 6 points", y::season);
        tells(y, "the lower of them", 0, 4, 5, 5, 5, 5, 5, 5, 5);
    }

    private static void down() {
        CHECK.sentence("of each grade from 1 to 4 that has 2 BANDS or more, the one with the fewest points goes down to the grade below");
        for (int grade = 1; grade <= 5; grade++) {
            Dronegrade one = bandsOf(grade, 1);
            CHECK.answers(0, "one of grade " + grade, one::season);
            tells(one, "one of grade " + grade, 0, grade);
            Dronegrade two = bandsOf(grade, 2);
            CHECK.answers(grade < 5 ? 1 : 0, "two of grade " + grade + ", without points", two::season);
            tells(two, "two of grade " + grade, 0, grade, Math.min(5, grade + 1));
            CHECK.answers(0, "now one of each", two::season);
        }
        Dronegrade x = banded(1, 1, 1);
        ranked(x, 1, 2, 0, 1);
        CHECK.answers(1, "the fewest points, which are above 0", x::season);
        tells(x, "the fewest points", 0, 1, 2, 1);
    }

    private static void downOfSeveral() {
        CHECK.sentence("of several the highest number.");
        Dronegrade x = bandsOf(1, 8);
        ranked(x, 1, 7, 5, 4, 3, 2, 1, 0, 6);
        tells(x, "points", 1, 0, 1, 1, 2, 3, 4, 0, 6);
        CHECK.answers(1, "two without points", x::season);
        tells(x, "the higher of them", 0, 1, 1, 1, 1, 1, 1, 2, 1);
        Dronegrade y = bandsOf(1, 4);
        CHECK.answers(1, "four without points", y::season);
        tells(y, "the highest of them", 0, 1, 1, 1, 2);
        Dronegrade z = bandsOf(1, 3);
        ranked(z, 1, 2, 1, 0);
        ranked(z, 1, 2, 0, 1);
        tells(z, "points", 1, 7, 7, 12);
        CHECK.answers(1, "two with 7", z::season);
        tells(z, "the higher of them", 0, 1, 2, 1);
    }

    private static void upAndDown() {
        Dronegrade x = banded(3, 3);
        ranked(x, 3, 0, 1);
        ranked(x, 3, 1, 0);
        CHECK.answers(2, "10 and 10 points: the lower number up, the higher down", x::season);
        tells(x, "grades", 0, 2, 4);
        Dronegrade y = banded(3, 1, 3, 5, 3);
        ranked(y, 3, 4, 2, 0);
        CHECK.answers(2, "three, one between", y::season);
        tells(y, "grades", 0, 4, 1, 3, 5, 2);
    }

    private static void allAtOnce() {
        CHECK.sentence("As a SEASON ends, all at once, by grades and points as they are ahead of that");
        Dronegrade x = banded(1, 1, 2, 2, 3, 3, 4, 5);
        ranked(x, 1, 0, 1);
        ranked(x, 2, 2, 3);
        ranked(x, 3, 4, 5);
        CHECK.answers(5, "four grades", x::season);
        tells(x, "grades", 0, 1, 2, 1, 3, 2, 4, 4, 5);
        Dronegrade y = banded(4, 5, 5);
        ranked(y, 5, 2, 1);
        CHECK.answers(1, "the one of grade 4 was alone", y::season);
        tells(y, "who comes up does not send it down", 0, 4, 5, 4);
        Dronegrade z = banded(1, 1, 2);
        CHECK.answers(1, "the one of grade 2 was alone", z::season);
        tells(z, "who comes down does not send it down", 0, 1, 2, 2);
        Dronegrade w = banded(5, 5, 4, 3);
        ranked(w, 5, 0, 1);
        CHECK.answers(1, "one grade up, not on to the next", w::season);
        tells(w, "grades", 0, 4, 5, 4, 3);
        Dronegrade v = banded(1, 1);
        CHECK.answers(1, "one grade down, not on to the next", v::season);
        tells(v, "grades", 0, 1, 2);
    }

    private static void pointsBehindASeason() {
        CHECK.sentence("Then all points are 0.");
        Dronegrade x = banded(2, 2, 2, 5);
        ranked(x, 2, 2, 1, 0);
        x.season();
        tells(x, "all", 1, 0, 0, 0, 0);
        tells(x, "grades", 0, 3, 2, 1, 5);
        CHECK.answers(0, "so none goes up by the points of before", x::season);
        tells(x, "ranks are of the latest contest still", 2, 3, 2, 1, -1);
        tells(x, "and sums", 3, 12, 8, 4, -1);
        tells(x, "and firsts", 4, 0, 0, 1, 0);
        x.band(3);
        ranked(x, 3, 4, 0);
        tells(x, "points of the new season alone", 1, 4, 0, 0, 0, 6);
    }

    private static void ofBandWhats() {
        CHECK.sentence("Throws `IllegalArgumentException` if what is out of range");
        Dronegrade x = marked(new int[] {5, 5, 5, 6}, new int[] {5, 5, 5, 5});
        x.close();
        int[] due = {3, 4, 2, 5, 0};
        for (int what = 0; what <= 4; what++) {
            int asked = what;
            CHECK.answers(due[what], "what " + what, () -> x.ofBand(1, asked));
        }
        CHECK.refusesBeyond(BAD, 0, 4, "what", what -> x.ofBand(1, what));
        CHECK.refusesBeyond(NO_SUCH, 0, 4, "no such band, what", what -> x.ofBand(2, what));
    }

    private static void latestContest() {
        CHECK.sentence("2 and 3 are NONE, if it took no part in that one, or there was none");
        Dronegrade x = banded(2, 2, 3, 3);
        tells(x, "there was none", 2, -1, -1, -1, -1);
        tells(x, "there was none", 3, -1, -1, -1, -1);
        x.contest(2);
        tells(x, "it is not closed", 2, -1, -1, -1, -1);
        markAll(x, new int[] {5, 5, 5, 5}, new int[] {6, 6, 6, 6});
        tells(x, "it is not closed, and all marks are there", 3, -1, -1, -1, -1);
        x.close();
        tells(x, "2 and 3 took no part", 2, 2, 1, -1, -1);
        tells(x, "2 and 3 took no part", 3, 8, 4, -1, -1);
        x.contest(3);
        tells(x, "the latest one that was closed", 2, 2, 1, -1, -1);
        for (int judge = 0; judge < 4; judge++) {
            x.mark(judge, 2, 70);
            x.mark(judge, 3, 70);
        }
        tells(x, "the latest one that was closed", 3, 8, 4, -1, -1);
        x.close();
        tells(x, "of whatever grade: 0 and 1 took no part", 2, -1, -1, 1, 2);
        tells(x, "of whatever grade: 0 and 1 took no part", 3, -1, -1, 4, 4);
        tells(x, "points are of all", 1, 4, 6, 6, 4);
    }

    private static void firsts() {
        CHECK.sentence("4 how many CONTESTS it was ranked first in");
        Dronegrade x = bandsOf(1, 3);
        tells(x, "no contest", 4, 0, 0, 0);
        for (int i = 1; i <= 10; i++) {
            ranked(x, 1, 1, 2, 0);
            tells(x, "contest " + i, 4, 0, i, 0);
        }
        ranked(x, 1, 2, 1, 0);
        tells(x, "another one first", 4, 0, 10, 1);
        x.season();
        tells(x, "behind a season", 4, 0, 10, 1);
        Dronegrade y = marked(new int[] {5, 5, 5, 5}, new int[] {5, 5, 5, 5});
        y.close();
        tells(y, "of all alike, one is first", 4, 1, 0);
    }
}
