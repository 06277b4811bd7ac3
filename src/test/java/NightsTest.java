/** Promises 7 to 14: cloud, observe, kept, score, phase, period, whyNot, oddEven. */
public final class NightsTest {
    private static final int[] NO_STARS = {-1, 1, 6, Integer.MIN_VALUE, Integer.MAX_VALUE};
    private static final int[] NO_HOURS = {-1, 1000, Integer.MIN_VALUE, Integer.MAX_VALUE};
    private static final int[] NO_PERIODS = {1, 61, 0, -2, 120, Integer.MIN_VALUE, Integer.MAX_VALUE};
    private static final int[] NO_THRESHOLDS = {-1, 1000001, Integer.MIN_VALUE, Integer.MAX_VALUE};
    private static final Check check = new Check();

    public static void main(String[] args) {
        cloud();
        observe();
        observeThrows();
        observeThroughClouds();
        kept();
        scoreAndPhase();
        scoreAddsByRisingHours();
        scoreBelowZero();
        scoreThrows();
        periodOfAlikeScores();
        periodOfManyHours();
        whyNot();
        searchThrows();
        oddEven();
        oddEvenWithoutHours();
        oddEvenBySmallParts();
        eachCallFoldsAnew();
        check.end();
    }

    private static Transitry withStar(int light) {
        Transitry x = new Transitry();
        x.star(light);
        return x;
    }

    /** Both planets together dim each hour alike, so that its light is no whole number. */
    private static Transitry withSteadyLight(int light, int depth) {
        Transitry x = withStar(light);
        x.planet(0, 2, 0, 1, depth);
        x.planet(0, 2, 1, 1, depth);
        return x;
    }

    /** Lets a star of light 1000 have this light in an hour, and keeps it. */
    private static void keep(Transitry x, int hour, int light) {
        x.blend(0, light - 1000);
        x.observe(0, hour, hour);
    }

    private static void cloud() {
        Transitry x = new Transitry();
        check.due("one hour", x.cloud(5, 5), 1);
        check.due("once more", x.cloud(5, 5), 1);
        check.due("both ends", x.cloud(10, 19), 11);
        check.due("over some that are hidden", x.cloud(15, 21), 13);
        for (int hour : NO_HOURS) {
            check.noIndex("cloud from " + hour, () -> x.cloud(hour, 999));
            check.noIndex("cloud to " + hour, () -> x.cloud(0, hour));
        }
        check.noIndex("no such hour before wrong order", () -> x.cloud(1000, 4));
        check.noIndex("no such last hour before wrong order", () -> x.cloud(4, -1));
        check.noArgument("wrong order", () -> x.cloud(30, 29));
        check.noArgument("wrong order of the ends", () -> x.cloud(999, 0));
        check.due("a call that throws changed nothing", x.cloud(5, 5), 13);
        check.due("the ends of all hours", x.cloud(0, 0) + x.cloud(999, 999), 14 + 15);
        check.due("all hours", x.cloud(0, 999), 1000);
    }

    private static void observe() {
        Transitry x = withStar(1000);
        x.star(2000);
        check.due("one hour", x.observe(0, 7, 7), 1);
        check.due("the same hour", x.observe(0, 7, 7), 0);
        check.due("around it", x.observe(0, 5, 9), 4);
        check.due("another star keeps its own", x.observe(1, 5, 9), 5);
        check.due("all other hours", x.observe(0, 0, 999), 995);
        check.dueDouble("first hour", x.kept(0, 0), 1000.0);
        check.dueDouble("last hour", x.kept(0, 999), 1000.0);
        check.dueDouble("of the other star", x.kept(1, 9), 2000.0);
        check.due("not of the other star", x.kept(1, 10), Transitry.NONE);
    }

    private static void observeThrows() {
        Transitry x = withStar(1000);
        for (int star : NO_STARS) {
            check.noIndex("observe star " + star, () -> x.observe(star, 0, 0));
            check.noIndex("observe star " + star + " in wrong order", () -> x.observe(star, 1, 0));
        }
        for (int hour : NO_HOURS) {
            check.noIndex("observe from " + hour, () -> x.observe(0, hour, 0));
            check.noIndex("observe to " + hour, () -> x.observe(0, 999, hour));
        }
        check.noArgument("wrong order", () -> x.observe(0, 8, 7));
        for (int hour : new int[] {0, 7, 8, 999}) {
            check.due("a call that throws kept nothing", x.kept(0, hour), Transitry.NONE);
        }
    }

    private static void observeThroughClouds() {
        Transitry x = withStar(1000);
        x.star(2000);
        x.observe(0, 3, 4);
        x.cloud(4, 6);
        check.due("hidden hours are not kept", x.observe(0, 0, 9), 6);
        check.due("hidden hours alone", x.observe(0, 5, 6), 0);
        check.dueDouble("kept before the cloud", x.kept(0, 4), 1000.0);
        check.due("hidden", x.kept(0, 5), Transitry.NONE);
        check.due("clouds are ahead of all stars", x.observe(1, 4, 7), 1);
        check.due("clouds hide no light", x.light(0, 5), Double.doubleToLongBits(1000.0));
    }

    private static void kept() {
        Transitry x = withStar(1003);
        x.planet(0, 5, 0, 1, 37);
        x.observe(0, 0, 1);
        double dip = 1003.0 * (963 / 1000.0);
        check.dueDouble("a dip", x.kept(0, 0), dip);
        check.dueDouble("no dip", x.kept(0, 1), 1003.0);
        check.due("not kept", x.kept(0, 2), Transitry.NONE);
        x.blend(0, 10);
        x.spots(0, 4, 50);
        x.planet(0, 2, 1, 1, 9);
        check.due("kept anew", x.observe(0, 0, 2), 1);
        check.dueDouble("the raw dip stays", x.kept(0, 0), dip);
        check.dueDouble("the raw light stays", x.kept(0, 1), 1003.0);
        check.dueDouble("light as it is now", x.kept(0, 2), 1013.0);
        for (int star : NO_STARS) {
            check.noIndex("kept of star " + star, () -> x.kept(star, 0));
        }
        for (int hour : NO_HOURS) {
            check.noIndex("kept in hour " + hour, () -> x.kept(0, hour));
        }
    }

    private static void scoreAndPhase() {
        Transitry x = withStar(1000);
        x.planet(0, 7, 3, 2, 100);
        x.observe(0, 0, 99);
        // 28 of 100 hours dip by 100, 14 of them in fold 3 and 14 in fold 4: the mean is 972.
        check.dueDouble("score of the period", x.score(0, 7), 72.0 * 14);
        check.due("the lowest of two alike folds", x.phase(0, 7), 3);
        check.dueDouble("score of twice the period", x.score(0, 14), 72.0 * 7);
        check.due("phase of twice the period", x.phase(0, 14), 3);
        // 14 dips are in even hours, 14 in odd ones.
        check.dueDouble("score of alike folds", x.score(0, 2), 0.0);
        check.due("phase of alike folds", x.phase(0, 2), 0);

        Transitry y = withStar(1000);
        y.planet(0, 60, 59, 1, 200);
        y.observe(0, 0, 59);
        y.star(1000);
        y.observe(1, 0, 19);
        check.due("phase is the last fold", y.phase(0, 60), 59);
        double mean = 59800.0 / 60;
        check.dueDouble("one hour a fold", y.score(0, 60), mean - 800.0);
        check.dueDouble("two hours a fold", y.score(0, 30), (mean - 900.0) * 2);
        check.dueDouble("thirty hours a fold", y.score(0, 2), (mean - 29800.0 / 30) * 30);
        check.dueDouble("another star has its own nights", y.score(1, 60), 0.0);
        check.due("folds without hours are none", y.phase(1, 60), 0);

        Transitry small = withStar(1000);
        small.planet(0, 60, 7, 1, 1);
        small.observe(0, 0, 59);
        check.dueDouble("a score below 1", small.score(0, 60), 59999.0 / 60 - 999.0);

        Transitry z = withStar(1000);
        z.observe(0, 100, 119);
        check.dueDouble("steady light", z.score(0, 60), 0.0);
        check.due("the lowest fold that has hours", z.phase(0, 60), 40);
        check.due("the lowest fold of a lower period", z.phase(0, 55), 0);
    }

    private static void scoreAddsByRisingHours() {
        Transitry x = withStar(999979);
        x.planet(0, 3, 1, 1, 123);
        x.planet(0, 11, 5, 4, 77);
        x.spots(0, 13, 31);
        // Kept in another order than that of the hours.
        x.observe(0, 300, 420);
        x.observe(0, 10, 200);
        x.cloud(500, 600);
        x.observe(0, 0, 700);
        double[] light = new double[701];
        for (int hour = 0; hour <= 700; hour++) {
            light[hour] = hour >= 500 && hour <= 600 ? 0.0 : 999979.0;
            light[hour] *= hour % 3 == 1 ? 877 / 1000.0 : 1.0;
            light[hour] *= (hour + 6) % 11 < 4 ? 923 / 1000.0 : 1.0;
            light[hour] *= hour % 13 < 3 ? 969 / 1000.0 : 1.0;
        }
        for (int period : new int[] {2, 3, 11, 13, 33, 59, 60}) {
            double[] scores = scores(light, period);
            int best = 0;
            for (int fold = 1; fold < period; fold++) {
                best = scores[fold] > scores[best] ? fold : best;
            }
            check.dueDouble("score by " + period, x.score(0, period), scores[best]);
            check.due("phase by " + period, x.phase(0, period), best);
        }
    }

    private static double[] scores(double[] light, int period) {
        double total = 0.0;
        int hours = 0;
        for (double each : light) {
            total += each;
            hours += each > 0.0 ? 1 : 0;
        }
        double[] scores = new double[period];
        for (int fold = 0; fold < period; fold++) {
            double sum = 0.0;
            int count = 0;
            for (int hour = fold; hour < light.length; hour += period) {
                sum += light[hour];
                count += light[hour] > 0.0 ? 1 : 0;
            }
            scores[fold] = (total / hours - sum / count) * count;
        }
        return scores;
    }

    private static void scoreBelowZero() {
        // Rounding leaves the mean of these alike hours a little below each of them.
        Transitry x = withSteadyLight(1001, 16);
        check.due("observe", x.observe(0, 0, 59), 60);
        double each = 1001.0 * (984 / 1000.0);
        double total = 0.0;
        for (int i = 0; i < 60; i++) {
            total += each;
        }
        check.due("rounded down", total / 60 < each, true);
        check.dueDouble("a score below 0", x.score(0, 60), total / 60 - each);
        check.due("the lowest of alike folds below 0", x.phase(0, 60), 0);
    }

    private static void scoreThrows() {
        Transitry x = withStar(1000);
        check.due("too few hours", x.observe(0, 0, 18), 19);
        check.noState("score", () -> x.score(0, 2));
        check.noState("phase", () -> x.phase(0, 60));
        check.noState("oddEven", () -> x.oddEven(0, 30));
        refuseWrongFolds(x);
        check.due("one hour more", x.observe(0, 999, 999), 1);
        check.dueDouble("score of 20 hours", x.score(0, 2), 0.0);
        check.due("phase of 20 hours", x.phase(0, 60), 0);
        check.dueDouble("oddEven of 20 hours", x.oddEven(0, 60), 0.0);
        refuseWrongFolds(x);
    }

    private static void refuseWrongFolds(Transitry x) {
        for (int star : NO_STARS) {
            check.noIndex("score of star " + star, () -> x.score(star, 1));
            check.noIndex("phase of star " + star, () -> x.phase(star, 61));
            check.noIndex("oddEven of star " + star, () -> x.oddEven(star, 0));
            check.noIndex("oddEven of star " + star + ", period in range", () -> x.oddEven(star, 2));
        }
        for (int period : NO_PERIODS) {
            check.noArgument("score of period " + period, () -> x.score(0, period));
            check.noArgument("phase of period " + period, () -> x.phase(0, period));
            check.noArgument("oddEven of period " + period, () -> x.oddEven(0, period));
        }
    }

    private static void periodOfAlikeScores() {
        Transitry x = withStar(1000);
        x.planet(0, 60, 39, 1, 200);
        x.observe(0, 0, 39);
        // Only hour 39 dips; by each period from 40 on it is alone in its fold.
        for (int period = 40; period <= 60; period++) {
            check.dueDouble("score by " + period, x.score(0, period), 195.0);
        }
        check.due("the lowest of alike periods", x.period(0, 0), 40);
        check.due("just above the threshold", x.period(0, 194), 40);
        check.noState("not greater than the threshold", () -> x.period(0, 195));
        check.due("whyNot just above", x.whyNot(0, 194), 0);
        check.due("whyNot not greater", x.whyNot(0, 195), 2);

        x.observe(0, 40, 999);
        check.due("the period of more hours", x.period(0, 195), 60);
        check.due("its phase", x.phase(0, 60), 39);
    }

    private static void periodOfManyHours() {
        for (int period : new int[] {2, 3, 7, 30, 59, 60}) {
            Transitry x = withStar(5000);
            x.planet(0, period, period - 1, 1, 50);
            x.observe(0, 0, 999);
            check.due("period " + period, x.period(0, 1000), period);
            check.due("phase", x.phase(0, period), period - 1);
        }
        Transitry y = withStar(1000000);
        y.planet(0, 2, 0, 1, 200);
        y.observe(0, 0, 999);
        check.due("the greatest threshold", y.period(0, 1000000), 2);
        y.star(1000);
        y.observe(1, 0, 999);
        check.noState("steady light has no period", () -> y.period(1, 0));
        check.due("steady light", y.whyNot(1, 0), 2);
    }

    private static void whyNot() {
        Transitry x = withStar(1000);
        check.due("no hours", x.whyNot(0, 0), 1);
        check.noState("no hours", () -> x.period(0, 0));
        x.planet(0, 5, 2, 1, 100);
        x.observe(0, 0, 18);
        check.due("19 hours", x.whyNot(0, 0), 1);
        check.due("too few hours are told first", x.whyNot(0, 1000000), 1);
        check.noState("19 hours", () -> x.period(0, 0));
        x.observe(0, 0, 19);
        check.due("20 hours", x.whyNot(0, 0), 0);
        check.due("period of 20 hours", x.period(0, 0), 5);
        check.due("no score is greater", x.whyNot(0, 1000000), 2);
        check.noState("no score is greater", () -> x.period(0, 1000000));
    }

    private static void searchThrows() {
        Transitry x = withStar(1000);
        refuseWrongSearches(x);
        x.planet(0, 5, 2, 1, 100);
        x.observe(0, 0, 99);
        refuseWrongSearches(x);
    }

    private static void refuseWrongSearches(Transitry x) {
        for (int star : NO_STARS) {
            check.noIndex("period of star " + star, () -> x.period(star, -1));
            check.noIndex("whyNot of star " + star, () -> x.whyNot(star, -1));
            check.noIndex("period of star " + star + ", threshold in range", () -> x.period(star, 0));
            check.noIndex("whyNot of star " + star + ", threshold in range", () -> x.whyNot(star, 0));
        }
        for (int threshold : NO_THRESHOLDS) {
            check.noArgument("period by " + threshold, () -> x.period(0, threshold));
            check.noArgument("whyNot by " + threshold, () -> x.whyNot(0, threshold));
        }
    }

    private static void oddEven() {
        Transitry x = withStar(1000);
        x.planet(0, 14, 3, 1, 100);
        x.planet(0, 14, 10, 1, 50);
        x.observe(0, 0, 139);
        check.due("phase", x.phase(0, 7), 3);
        check.dueDouble("deeper odd dips", x.oddEven(0, 7), -50.0);
        check.dueDouble("by 14 all dips are alike", x.oddEven(0, 14), 0.0);
        x.star(1000);
        x.planet(1, 14, 3, 1, 50);
        x.planet(1, 14, 10, 1, 100);
        x.observe(1, 0, 139);
        check.dueDouble("deeper even dips", x.oddEven(1, 7), 50.0);

        Transitry y = withStar(1000);
        y.planet(0, 60, 59, 1, 100);
        y.observe(0, 0, 59);
        y.blend(0, 7);
        y.observe(0, 0, 999);
        check.due("the greatest phase", y.phase(0, 60), 59);
        // Hours 59, 179, .. 899 are in fold 59 by 120, hours 119, 239, .. 959 in fold 119.
        check.dueDouble("folds up to 119", y.oddEven(0, 60), (900.0 + 7 * 907.0) / 8 - 907.0);
    }

    private static void oddEvenWithoutHours() {
        Transitry x = withStar(1000);
        x.planet(0, 60, 39, 1, 100);
        x.observe(0, 0, 39);
        check.dueDouble("no even hours", x.oddEven(0, 60), 0.0);
        check.dueDouble("no even hours by 40", x.oddEven(0, 40), 0.0);
        x.star(1000);
        x.planet(1, 60, 39, 1, 100);
        x.observe(1, 60, 99);
        check.due("phase", x.phase(1, 60), 39);
        check.dueDouble("no odd hours", x.oddEven(1, 60), 0.0);
    }

    private static void oddEvenBySmallParts() {
        // Hours 0, 4, .. have one light, hours 2, 6, .. another, and two lights in turn make halves.
        int[][] lights = {
            {1000, 1000, 1001, 1001}, {1001, 1001, 1000, 1000}, {1000, 1001, 1000, 1000}, {1000, 1000, 1001, 1000},
            {1000, 1000, 1002, 1002}, {1004, 1004, 1000, 1000}, {1000, 1000, 1003, 1003}, {1001, 1002, 1000, 1000},
        };
        double[] differences = {-1.0, 1.0, 0.5, -0.5, -2.0, 4.0, -3.0, 1.5};
        for (int i = 0; i < lights.length; i++) {
            Transitry x = withStar(1000);
            for (int hour = 0; hour < 16; hour += 2) {
                keep(x, hour, lights[i][hour % 4 + hour / 4 % 2]);
            }
            x.blend(0, 5000);
            check.due("odd hours alone", x.observe(0, 0, 15), 8);
            x.observe(0, 17, 17);
            x.observe(0, 19, 19);
            x.observe(0, 21, 21);
            x.observe(0, 23, 23);
            check.due("even hours are the darkest", x.phase(0, 2), 0);
            check.dueDouble("a difference of " + differences[i], x.oddEven(0, 2), differences[i]);
        }
    }

    /** What one call folded must not answer the next one. */
    private static void eachCallFoldsAnew() {
        Transitry x = withStar(1000);
        x.planet(0, 14, 3, 1, 100);
        x.planet(0, 14, 10, 1, 50);
        x.observe(0, 100, 379);
        x.star(1000);
        x.observe(1, 0, 59);
        check.due("phase of the steady star", x.phase(1, 60), 0);
        check.dueDouble("oddEven behind it", x.oddEven(0, 7), -50.0);
        check.due("phase behind oddEven", x.phase(0, 7), 3);
        check.dueDouble("score of the steady star", x.score(1, 7), 0.0);
        check.dueDouble("oddEven behind that", x.oddEven(0, 7), -50.0);
        check.due("period behind that", x.period(0, 100), 7);
        check.due("phase behind that", x.phase(0, 14), 3);
    }
}
