import java.util.Arrays;

/** The document's sentences on nights: "Terms" from the clouds to odd and even dips, and promises 7 to 14. */
final class NightsSentences {
    private static final int NONE = Transitry.NONE;

    private static Transitry withStar(int light) {
        Transitry x = new Transitry();
        x.star(light);
        return x;
    }

    /** A star of light 1000 whose hour 39 alone dips, of those up to 98, by 200. */
    private static Transitry withDipInHour39() {
        Transitry x = withStar(1000);
        x.planet(0, 60, 39, 1, 200);
        return x;
    }

    /** Both planets together dim each hour alike, so that its light is no whole number. */
    private static Transitry withSteadyLight(int light, int depth) {
        Transitry x = withStar(light);
        x.planet(0, 2, 0, 1, depth);
        x.planet(0, 2, 1, 1, depth);
        return x;
    }

    /** Keeps this light, 1000 or more, of an hour of star 0, which has light 1000 and no dips. */
    private static void keep(Transitry x, int hour, int light) {
        x.blend(0, light - 1000);
        x.observe(0, hour, hour);
    }

    private static double mean(double... lights) {
        double sum = 0.0;
        for (double light : lights) {
            sum = sum + light;
        }
        return sum / lights.length;
    }

    // ---- terms: clouds, observing

    @Holds(in = "Terms", says = "Clouds hide hours from one to another one, both with them, for good;")
    static void cloudsHideBothTheirEnds(Check check) {
        Transitry x = withStar(1000);
        check.due("three hours", x.cloud(10, 12), 3);
        check.due("around them", x.observe(0, 9, 13), 2);
        check.dueDouble("the hour ahead", x.kept(0, 9), 1000.0);
        for (int hour = 10; hour <= 12; hour++) {
            check.due("hidden hour " + hour, x.kept(0, hour), NONE);
        }
        check.dueDouble("the hour behind", x.kept(0, 13), 1000.0);
    }

    @Holds(in = "Terms", says = "Clouds hide hours from one to another one, both with them, for good;")
    static void aCloudFromAnHourToItselfHidesThatOne(Check check) {
        Transitry x = withStar(1000);
        check.due("one hour", x.cloud(10, 10), 1);
        check.due("the first hour", x.cloud(0, 0), 2);
        check.due("the last hour", x.cloud(999, 999), 3);
        check.due("all others", x.observe(0, 0, 999), 997);
        for (int hour : new int[] {0, 10, 999}) {
            check.due("hidden hour " + hour, x.kept(0, hour), NONE);
        }
    }

    @Holds(in = "Terms", says = "Clouds hide hours from one to another one, both with them, for good;")
    static void whatIsHiddenStaysHiddenFromAllStars(Check check) {
        Transitry x = withStar(1000);
        x.cloud(10, 12);
        x.cloud(20, 20);
        x.cloud(11, 11);
        check.due("hidden from a star told before", x.observe(0, 10, 12), 0);
        x.star(1000);
        check.due("hidden from a star told later", x.observe(1, 10, 12), 0);
        check.due("hidden still", x.observe(0, 10, 12), 0);
        check.due("three and one are hidden", x.cloud(20, 20), 4);
    }

    @Holds(in = "Terms", says = "light that was kept of them stays.")
    static void lightThatWasKeptOfHiddenHoursStays(Check check) {
        Transitry x = withDipInHour39();
        x.observe(0, 0, 39);
        long score = x.score(0, 60);
        x.cloud(0, 999);
        check.dueDouble("the first hour", x.kept(0, 0), 1000.0);
        check.dueDouble("the dip", x.kept(0, 39), 800.0);
        check.due("the score", x.score(0, 60), score);
        check.due("the phase", x.phase(0, 60), 39);
        check.due("the period", x.period(0, 194), 40);
        check.due("enough hours", x.whyNot(0, 194), 0);
    }

    @Holds(in = "Terms", says = "To observe a star from an hour to another one, both with them, keeps its light,")
    static void observeKeepsBothItsEnds(Check check) {
        Transitry x = withStar(1000);
        check.due("three hours", x.observe(0, 10, 12), 3);
        check.due("the hour ahead", x.kept(0, 9), NONE);
        for (int hour = 10; hour <= 12; hour++) {
            check.dueDouble("kept hour " + hour, x.kept(0, hour), 1000.0);
        }
        check.due("the hour behind", x.kept(0, 13), NONE);
        check.due("an hour to itself", x.observe(0, 20, 20), 1);
        check.dueDouble("kept", x.kept(0, 20), 1000.0);
        check.due("the first hour to itself", x.observe(0, 0, 0), 1);
        check.due("the last hour to itself", x.observe(0, 999, 999), 1);
        check.due("all others", x.observe(0, 0, 999), 994);
    }

    @Holds(in = "Terms", says = "as it is now,")
    static void observeKeepsTheLightOfNow(Check check) {
        Transitry x = withStar(1000);
        x.observe(0, 0, 0);
        x.planet(0, 2, 0, 1, 100);
        x.observe(0, 4, 4);
        x.spots(0, 4, 100);
        x.observe(0, 8, 8);
        x.blend(0, 1000000);
        x.observe(0, 12, 12);
        check.dueDouble("before all", x.kept(0, 0), 1000.0);
        check.dueDouble("with a planet", x.kept(0, 4), 900.0);
        check.dueDouble("with spots", x.kept(0, 8), 810.0);
        check.dueDouble("with a blend", x.kept(0, 12), 1000810.0);
    }

    @Holds(in = "Terms", says = "of each hour that is not hidden now,")
    static void observeKeepsNoHiddenHour(Check check) {
        Transitry x = withStar(1000);
        x.cloud(0, 9);
        x.cloud(15, 15);
        x.cloud(990, 999);
        check.due("all but 21", x.observe(0, 0, 999), 979);
        for (int hour : new int[] {0, 9, 15, 990, 999}) {
            check.due("hidden hour " + hour, x.kept(0, hour), NONE);
        }
        for (int hour : new int[] {10, 14, 16, 989}) {
            check.dueDouble("hour " + hour, x.kept(0, hour), 1000.0);
        }
    }

    @Holds(in = "Terms", says = "of each hour that is not hidden now,")
    static void observeOfHiddenHoursAloneKeepsNone(Check check) {
        Transitry x = withStar(1000);
        x.cloud(0, 999);
        check.due("all hours", x.observe(0, 0, 999), 0);
        check.due("one hour", x.observe(0, 500, 500), 0);
        check.due("too few", x.whyNot(0, 0), 1);
    }

    @Holds(in = "Terms", says = "and was not kept for that star already.")
    static void observeKeepsNoHourTwiceForOneStar(Check check) {
        Transitry x = withStar(1000);
        x.star(2000);
        check.due("first", x.observe(0, 10, 12), 3);
        x.blend(0, 7);
        check.due("already", x.observe(0, 10, 12), 0);
        check.due("around", x.observe(0, 9, 13), 2);
        check.dueDouble("the raw light", x.kept(0, 11), 1000.0);
        check.dueDouble("the light of later", x.kept(0, 13), 1007.0);
        check.due("for another star", x.observe(1, 9, 13), 5);
        check.dueDouble("of that star", x.kept(1, 11), 2000.0);
    }

    // ---- terms: folds and scores

    @Holds(in = "Terms", says = "Light that was kept is folded by a period: each hour is in the fold"
            + " that is its remainder by the period.")
    static void eachHourIsInTheFoldThatIsItsRemainder(Check check) {
        int[] hours = {0, 1, 59, 60, 61, 119, 120, 500, 998, 999};
        for (int dark : hours) {
            Transitry x = withStar(1000);
            x.blend(0, 100);
            x.observe(0, 200, 260);
            keep(x, dark, 1000);
            for (int period = 2; period <= 60; period++) {
                // One hour alone is dark, so that its fold has the only score above 0.
                check.due("fold of hour " + dark + " by " + period, x.phase(0, period), dark - dark / period * period);
            }
        }
    }

    @Holds(in = "Terms", says = "The score of a period is the greatest, over all folds that have hours,")
    static void theScoreIsTheGreatestOfAllFolds(Check check) {
        // By 2: fold 0 is dark by 10 in one hour, fold 1 by 40 in one, of ten each.
        Transitry x = withStar(1000);
        keep(x, 0, 1030);
        keep(x, 1, 1000);
        x.blend(0, 40);
        x.observe(0, 2, 19);
        check.dueDouble("the last fold's", x.score(0, 2), ((20 * 1040 - 50) / 20.0 - 1036.0) * 10);
        Transitry y = withStar(1000);
        keep(y, 0, 1000);
        keep(y, 1, 1030);
        y.blend(0, 40);
        y.observe(0, 2, 19);
        check.dueDouble("the first fold's", y.score(0, 2), ((20 * 1040 - 50) / 20.0 - 1036.0) * 10);
    }

    @Holds(in = "Terms", says = "The score of a period is the greatest, over all folds that have hours,")
    static void foldsWithoutHoursHaveNoScoreEvenIfAllOthersAreBelow0(Check check) {
        // Rounding leaves the mean of 20 such hours a little below each of them.
        double each = 1001.0 * (998 / 1000.0);
        double[] all = new double[20];
        Arrays.fill(all, each);
        check.due("rounded down", mean(all) < each, true);
        Transitry x = withSteadyLight(1001, 2);
        x.observe(0, 5, 24);
        check.dueDouble("one hour in each fold that has one", x.score(0, 60), mean(all) - each);
        check.due("the lowest fold that has one", x.phase(0, 60), 5);
    }

    @Holds(in = "Terms", says = "of the mean of all light that was kept less the mean of the fold, times how many"
            + " hours the fold has;")
    static void aScoreIsTheMeanOfAllLessThatOfTheFoldTimesItsHours(Check check) {
        Transitry x = withDipInHour39();
        x.observe(0, 0, 39);
        check.dueDouble("alone in its fold by 60", x.score(0, 60), 995.0 - 800.0);
        check.dueDouble("alone in its fold by 40", x.score(0, 40), 995.0 - 800.0);
        check.dueDouble("one of 2 by 20", x.score(0, 20), (995.0 - 900.0) * 2);
        check.dueDouble("one of 4 by 10", x.score(0, 10), (995.0 - 950.0) * 4);
        check.dueDouble("one of 8 by 5", x.score(0, 5), (995.0 - 975.0) * 8);
        check.dueDouble("one of 20 by 2", x.score(0, 2), (995.0 - 990.0) * 20);
        check.dueDouble("one of 14 by 3", x.score(0, 3), (995.0 - (13 * 1000.0 + 800.0) / 14) * 14);
    }

    @Holds(in = "Terms", says = "of the mean of all light that was kept less the mean of the fold, times how many"
            + " hours the fold has;")
    static void aScoreOfAllHoursAndOfTheGreatestLight(Check check) {
        Transitry x = withStar(1000000);
        x.planet(0, 2, 0, 1, 200);
        x.blend(0, 1000000);
        x.observe(0, 0, 999);
        check.dueDouble("500 of 1000 hours", x.score(0, 2), (1900000.0 - 1800000.0) * 500);
        check.dueDouble("17 hours of a fold by 60", x.score(0, 60), (1900000.0 - 1800000.0) * 17);
    }

    @Holds(in = "Terms", says = "its phase is the lowest such fold.")
    static void thePhaseIsTheLowestOfAlikeFolds(Check check) {
        Transitry x = withStar(1000);
        x.planet(0, 10, 3, 2, 100);
        x.planet(0, 10, 8, 1, 100);
        x.observe(0, 0, 99);
        check.due("of folds 3, 4 and 8", x.phase(0, 10), 3);
        check.due("of folds 3, 4, 8, 13, 14 and 18", x.phase(0, 20), 3);
    }

    @Holds(in = "Terms", says = "its phase is the lowest such fold.")
    static void thePhaseOfSteadyLightIsTheLowestFoldThatHasHours(Check check) {
        Transitry x = withStar(1000);
        x.observe(0, 130, 149);
        check.due("hours 130 to 149 by 60", x.phase(0, 60), 10);
        check.due("hours 130 to 149 by 40", x.phase(0, 40), 10);
        check.due("hours 130 to 149 by 50, of which 130 is 30", x.phase(0, 50), 30);
        check.due("hours 130 to 149 by 45, of which 135 is 0", x.phase(0, 45), 0);
        check.due("all folds by 20", x.phase(0, 20), 0);
    }

    @Holds(in = "Terms", says = "its phase is the lowest such fold.")
    static void thePhaseCanBeTheFirstAndTheLastFold(Check check) {
        for (int period = 2; period <= 60; period++) {
            Transitry x = withStar(1000);
            x.planet(0, period, 0, 1, 100);
            x.star(1000);
            x.planet(1, period, period - 1, 1, 100);
            x.observe(0, 0, 239);
            x.observe(1, 0, 239);
            check.due("the first by " + period, x.phase(0, period), 0);
            check.due("the last by " + period, x.phase(1, period), period - 1);
        }
    }

    @Holds(in = "Terms", says = "Means are sums, added up by rising hours, beginning with 0.0, divided by how many"
            + " they are.")
    static void sumsAreAddedUpByRisingHoursHoweverTheyWereKept(Check check) {
        Transitry x = new Transitry();
        x.star(999863);
        x.planet(0, 3, 0, 1, 123);
        x.planet(0, 7, 2, 3, 77);
        int[] asKept = new int[101];
        int[] rising = new int[101];
        int[] falling = new int[101];
        for (int i = 0; i <= 100; i++) {
            asKept[i] = i <= 50 ? 100 - 2 * i : 2 * i - 101;
            rising[i] = i;
            falling[i] = 100 - i;
            check.due("keep hour " + asKept[i], x.observe(0, asKept[i], asKept[i]), 1);
        }
        check.due("all, as kept", meanOf(rising, 1) != meanOf(asKept, 1), true);
        check.due("all, falling", meanOf(rising, 1) != meanOf(falling, 1), true);
        check.due("the fold, as kept", meanOf(rising, 3) != meanOf(asKept, 3), true);
        check.due("the fold, falling", meanOf(rising, 3) != meanOf(falling, 3), true);
        check.due("the phase", x.phase(0, 3), 0);
        check.dueDouble("the score", x.score(0, 3), (meanOf(rising, 1) - meanOf(rising, 3)) * 34);
    }

    /** The mean of those of these hours that are in fold 0 by a period, in this order. */
    private static double meanOf(int[] hours, int period) {
        double sum = 0.0;
        int count = 0;
        for (int hour : hours) {
            if (hour % period == 0) {
                double planet = hour % 3 == 0 ? 999863.0 * (877 / 1000.0) : 999863.0;
                sum = sum + (hour % 7 >= 2 && hour % 7 < 5 ? planet * (923 / 1000.0) : planet);
                count++;
            }
        }
        return sum / count;
    }

    // ---- terms: the period

    @Holds(in = "Terms", says = "The period of a star by a threshold is the one from 2 to 60 with the greatest score,")
    static void thePeriodCanBeEachFrom2To60(Check check) {
        for (int period = 2; period <= 60; period++) {
            Transitry x = withStar(1000);
            x.planet(0, period, 1, 1, 200);
            x.observe(0, 0, 999);
            check.due("period " + period, x.period(0, 0), period);
        }
    }

    @Holds(in = "Terms", says = "The period of a star by a threshold is the one from 2 to 60 with the greatest score,")
    static void noPeriodAbove60IsFound(Check check) {
        // Dark hours 61 apart: 61 would have the greatest score, as it alone has all in one fold.
        Transitry x = withStar(1000);
        for (int hour = 0; hour < 1000; hour += 61) {
            keep(x, hour, 1000);
        }
        x.blend(0, 1000);
        x.observe(0, 0, 999);
        int found = x.period(0, 0);
        check.due("from 2 to 60", found >= 2 && found <= 60, true);
        for (int period = 2; period <= 60; period++) {
            boolean isLess = Double.longBitsToDouble(x.score(0, period)) <= Double.longBitsToDouble(x.score(0, found));
            check.due("score by " + period + " is not greater", isLess, true);
        }
    }

    @Holds(in = "Terms", says = "of alike ones the lowest,")
    static void thePeriodIsTheLowestOfAlikeOnes(Check check) {
        Transitry x = withDipInHour39();
        x.observe(0, 0, 39);
        for (int period = 40; period <= 60; period++) {
            check.dueDouble("score by " + period, x.score(0, period), 195.0);
        }
        check.due("the lowest", x.period(0, 0), 40);

        Transitry y = withStar(1000);
        y.planet(0, 2, 1, 1, 100);
        y.observe(0, 0, 0);
        for (int hour = 1; hour < 20; hour++) {
            y.observe(0, 60 * (hour / 2) + hour % 2, 60 * (hour / 2) + hour % 2);
        }
        // Hours 0, 1, 60, 61, .. 540, 541: each period that divides 60 folds them alike.
        for (int period : new int[] {2, 3, 4, 5, 6, 10, 12, 15, 20, 30, 60}) {
            check.dueDouble("score by " + period, y.score(0, period), 500.0);
        }
        check.due("the lowest of 2 to 60", y.period(0, 0), 2);
    }

    @Holds(in = "Terms", says = "if that is greater than the threshold.")
    static void aScoreAsGreatAsTheThresholdIsNotGreater(Check check) {
        Transitry x = withDipInHour39();
        x.observe(0, 0, 39);
        check.due("194 is less than 195", x.period(0, 194), 40);
        check.noState("195 is not", () -> x.period(0, 195));
        check.noState("196 is not", () -> x.period(0, 196));
    }

    @Holds(in = "Terms", says = "if that is greater than the threshold.")
    static void aScoreAsGreatAsTheGreatestThresholdIsNotGreater(Check check) {
        // 500 dips of 4000: the mean is 998000, the fold's 996000.
        Transitry x = withStar(1000000);
        x.planet(0, 2, 0, 1, 4);
        x.observe(0, 0, 999);
        check.dueDouble("the score", x.score(0, 2), 1000000.0);
        check.due("by 999999", x.period(0, 999999), 2);
        check.noState("by 1000000", () -> x.period(0, 1000000));
        Transitry y = withStar(1000000);
        y.planet(0, 2, 0, 1, 5);
        y.observe(0, 0, 999);
        check.due("a greater one by 1000000", y.period(0, 1000000), 2);
    }

    @Holds(in = "Terms", says = "if that is greater than the threshold.")
    static void aScoreOf0IsNotGreaterThan0AndOneBelow1Is(Check check) {
        Transitry x = withStar(1000);
        x.observe(0, 0, 59);
        check.dueDouble("a score of 0", x.score(0, 2), 0.0);
        check.noState("0 is not greater than 0", () -> x.period(0, 0));
        Transitry y = withStar(1000);
        y.planet(0, 60, 7, 1, 1);
        y.observe(0, 0, 59);
        check.due("a score below 1 is greater than 0", y.period(0, 0), 53);
        check.noState("a score below 1 is not greater than 1", () -> y.period(0, 1));
    }

    @Holds(in = "Terms", says = "if that is greater than the threshold.")
    static void aScoreBelow0IsNotGreaterThan0(Check check) {
        // Rounding leaves some scores of alike hours below 0, those of other ones above.
        Transitry down = withSteadyLight(1001, 2);
        down.observe(0, 0, 19);
        double least = 1.0;
        double greatest = -1.0;
        for (int period = 2; period <= 60; period++) {
            double score = Double.longBitsToDouble(down.score(0, period));
            least = score < least ? score : least;
            greatest = score > greatest ? score : greatest;
        }
        check.due("a score below 0", least < 0.0, true);
        check.due("whyNot", down.whyNot(0, 0), greatest > 0.0 ? 0 : 2);
        Transitry up = withSteadyLight(1001, 5);
        up.observe(0, 0, 19);
        check.due("a score just above 0", Double.longBitsToDouble(up.score(0, 60)) > 0.0, true);
        check.due("is greater than 0", up.whyNot(0, 0), 0);
        check.due("is not greater than 1", up.whyNot(0, 1), 2);
    }

    @Holds(in = "Terms", says = "There is none with fewer than 20 hours that were kept, 1,")
    static void thereIsNoPeriodWith19HoursAndOneWith20(Check check) {
        Transitry x = withStar(1000);
        x.planet(0, 5, 0, 1, 100);
        check.due("0 hours", x.whyNot(0, 0), 1);
        check.noState("period of 0 hours", () -> x.period(0, 0));
        x.observe(0, 0, 0);
        check.due("1 hour", x.whyNot(0, 0), 1);
        x.observe(0, 0, 18);
        check.due("19 hours", x.whyNot(0, 0), 1);
        check.noState("period of 19 hours", () -> x.period(0, 0));
        x.observe(0, 0, 18);
        check.due("19 hours once more", x.whyNot(0, 0), 1);
        x.observe(0, 999, 999);
        check.due("20 hours", x.whyNot(0, 0), 0);
        check.due("period of 20 hours", x.period(0, 0), 5);
    }

    @Holds(in = "Terms", says = "There is none with fewer than 20 hours that were kept, 1,")
    static void onlyHoursThatWereKeptOfThatStarCount(Check check) {
        Transitry x = withStar(1000);
        x.star(1000);
        x.planet(0, 5, 0, 1, 100);
        x.observe(1, 0, 999);
        x.cloud(0, 980);
        check.due("19 hours are not hidden", x.observe(0, 0, 999), 19);
        check.due("of star 0", x.whyNot(0, 0), 1);
        check.due("of star 1", x.whyNot(1, 0), 2);
    }

    @Holds(in = "Terms", says = "or if no score is greater, 2.")
    static void thereIsNoPeriodIfNoScoreIsGreater(Check check) {
        Transitry x = withDipInHour39();
        x.observe(0, 0, 39);
        check.due("by 194", x.whyNot(0, 194), 0);
        check.due("by 195", x.whyNot(0, 195), 2);
        check.due("by 1000000", x.whyNot(0, 1000000), 2);
        Transitry y = withStar(1000);
        y.observe(0, 0, 18);
        check.due("with 19 hours of steady light it is 1", y.whyNot(0, 0), 1);
        y.observe(0, 19, 19);
        check.due("with 20 hours of steady light it is 2", y.whyNot(0, 0), 2);
    }

    // ---- terms: odd and even dips

    @Holds(in = "Terms", says = "Odd and even dips: folded by twice a period, the mean of the fold that is the phase"
            + " of the period, less the mean of the fold that is that and the period, as a double;")
    static void oddDipsAreThePhaseAndEvenOnesAPeriodLater(Check check) {
        for (int period = 2; period <= 30; period++) {
            Transitry x = withStar(1000);
            x.planet(0, 2 * period, period - 1, 1, 100);
            x.planet(0, 2 * period, 2 * period - 1, 1, 40);
            x.star(1000);
            x.planet(1, 2 * period, 0, 1, 40);
            x.planet(1, 2 * period, period, 1, 100);
            x.observe(0, 0, 4 * period - 1);
            x.observe(1, 0, 4 * period - 1);
            x.observe(0, 120, 359);
            x.observe(1, 120, 359);
            check.due("the last phase by " + period, x.phase(0, period), period - 1);
            check.due("the first phase by " + period, x.phase(1, period), 0);
            // Hours 120 to 359 begin anywhere in the period, each dip is as deep as the others of its kind.
            check.dueDouble("deeper odd dips by " + period, x.oddEven(0, period), 900.0 - 960.0);
            check.dueDouble("deeper even dips by " + period, x.oddEven(1, period), 960.0 - 900.0);
        }
    }

    @Holds(in = "Terms", says = "Odd and even dips: folded by twice a period, the mean of the fold that is the phase"
            + " of the period, less the mean of the fold that is that and the period, as a double;")
    static void evenDipsOfPeriod60AndPhase59AreInFold119(Check check) {
        Transitry x = withStar(1000);
        x.blend(0, 500);
        x.observe(0, 0, 999);
        check.dueDouble("steady light", x.oddEven(0, 60), 0.0);
        Transitry y = withStar(1000);
        y.planet(0, 60, 59, 1, 200);
        y.observe(0, 0, 59);
        y.blend(0, 10);
        y.observe(0, 60, 119);
        check.due("the phase", y.phase(0, 60), 59);
        check.dueDouble("hour 59 less hour 119", y.oddEven(0, 60), 800.0 - 810.0);
    }

    @Holds(in = "Terms", says = "0.0, if one of both has no hours.")
    static void oddLessEvenIs0IfThereAreNoEvenHours(Check check) {
        Transitry x = withDipInHour39();
        x.observe(0, 0, 39);
        for (int period = 40; period <= 60; period++) {
            check.due("the phase by " + period, x.phase(0, period), 39);
            check.dueDouble("no even hours by " + period, x.oddEven(0, period), 0.0);
        }
        x.blend(0, 50);
        x.observe(0, 83, 83);
        // By 44 hours 39 and 83 are in one fold; hour 83 is bright, but the fold is still the darkest.
        check.due("the phase by 44", x.phase(0, 44), 39);
        check.dueDouble("an even hour by 44", x.oddEven(0, 44), 800.0 - 1050.0);
    }

    @Holds(in = "Terms", says = "0.0, if one of both has no hours.")
    static void oddLessEvenIs0IfThereAreNoOddHours(Check check) {
        Transitry x = withDipInHour39();
        x.observe(0, 60, 99);
        check.due("the phase by 60", x.phase(0, 60), 39);
        check.dueDouble("no odd hours by 60", x.oddEven(0, 60), 0.0);
        x.observe(0, 39, 39);
        x.blend(0, 50);
        x.observe(0, 159, 159);
        check.dueDouble("an odd hour by 60, and a brighter one", x.oddEven(0, 60), (800.0 + 850.0) / 2 - 800.0);
    }

    // ---- promise 7: cloud

    @Holds(in = "Promise 7", says = "Lets clouds hide hours.")
    static void cloudHidesHoursFromObserve(Check check) {
        Transitry x = withStar(1000);
        x.cloud(0, 0);
        x.cloud(999, 999);
        check.due("the first hour", x.observe(0, 0, 0), 0);
        check.due("the last hour", x.observe(0, 999, 999), 0);
        check.due("those between", x.observe(0, 0, 999), 998);
    }

    @Holds(in = "Promise 7", says = "Returns how many hours are hidden then.")
    static void cloudAnswersHowManyHoursAreHidden(Check check) {
        Transitry x = new Transitry();
        check.due("one", x.cloud(0, 0), 1);
        check.due("the same one", x.cloud(0, 0), 1);
        check.due("one more", x.cloud(999, 999), 2);
        check.due("ten more", x.cloud(10, 19), 12);
        check.due("within those", x.cloud(12, 15), 12);
        check.due("over their beginning", x.cloud(8, 10), 14);
        check.due("over their end", x.cloud(19, 21), 16);
        check.due("over all of them", x.cloud(7, 22), 18);
        check.due("all hours", x.cloud(0, 999), 1000);
        check.due("all hours once more", x.cloud(0, 999), 1000);
        check.due("one of all", x.cloud(500, 500), 1000);
    }

    @Holds(in = "Promise 7", says = "Throws `IndexOutOfBoundsException` as told, of both hours")
    static void cloudRefusesNoHour(Check check) {
        Transitry x = new Transitry();
        int[] noHours = Check.beyond(0, 999);
        check.noIndex("from", noHours, hour -> x.cloud(hour, 999));
        check.noIndex("from, before the order", noHours, hour -> x.cloud(hour, 0));
        check.noIndex("to", noHours, hour -> x.cloud(0, hour));
        check.noIndex("to, before the order", noHours, hour -> x.cloud(999, hour));
        check.noIndex("both", noHours, hour -> x.cloud(hour, hour));
        check.due("nothing was hidden", x.cloud(999, 999), 1);
    }

    @Holds(in = "Promise 7", says = "Throws `IllegalArgumentException` if to is less than from")
    static void cloudRefusesALastHourBeforeTheFirst(Check check) {
        Transitry x = new Transitry();
        check.noArgument("1 to 0", () -> x.cloud(1, 0));
        check.noArgument("999 to 998", () -> x.cloud(999, 998));
        check.noArgument("999 to 0", () -> x.cloud(999, 0));
        check.noArgument("500 to 499", () -> x.cloud(500, 499));
        check.due("500 to 500", x.cloud(500, 500), 1);
        check.due("499 to 500", x.cloud(499, 500), 2);
    }

    // ---- promise 8: observe

    @Holds(in = "Promise 8", says = "Observes a star.")
    static void observeKeepsTheLightOfThatStarAlone(Check check) {
        Transitry x = withStar(1000);
        x.star(2000);
        x.observe(1, 5, 6);
        check.due("star 0", x.kept(0, 5), NONE);
        check.dueDouble("star 1", x.kept(1, 5), 2000.0);
        check.dueDouble("star 1, the last hour", x.kept(1, 6), 2000.0);
    }

    @Holds(in = "Promise 8", says = "Returns of how many hours light was kept by that.")
    static void observeAnswersHowManyHoursItKept(Check check) {
        Transitry x = withStar(1000);
        check.due("one", x.observe(0, 0, 0), 1);
        check.due("none", x.observe(0, 0, 0), 0);
        check.due("nine of ten", x.observe(0, 0, 9), 9);
        x.cloud(10, 14);
        check.due("five of ten", x.observe(0, 10, 19), 5);
        check.due("none but hidden and kept", x.observe(0, 0, 19), 0);
        check.due("all that is left", x.observe(0, 0, 999), 980);
        Transitry y = withStar(1000);
        check.due("all hours", y.observe(0, 0, 999), 1000);
        check.due("all hours once more", y.observe(0, 0, 999), 0);
    }

    @Holds(in = "Promise 8", says = "Throws `IndexOutOfBoundsException` as told, of the star or the hours")
    static void observeRefusesNoStarAndNoHour(Check check) {
        Transitry x = withStar(1000);
        int[] noHours = Check.beyond(0, 999);
        check.noIndex("star", Check.beyond(0, 0), star -> x.observe(star, 0, 999));
        check.noIndex("star, before the order", Check.beyond(0, 0), star -> x.observe(star, 1, 0));
        check.noIndex("from", noHours, hour -> x.observe(0, hour, 999));
        check.noIndex("from, before the order", noHours, hour -> x.observe(0, hour, 0));
        check.noIndex("to", noHours, hour -> x.observe(0, 0, hour));
        check.noIndex("to, before the order", noHours, hour -> x.observe(0, 999, hour));
        check.due("nothing was kept", x.observe(0, 0, 999), 1000);
    }

    @Holds(in = "Promise 8", says = "Throws `IllegalArgumentException` if to is less than from")
    static void observeRefusesALastHourBeforeTheFirst(Check check) {
        Transitry x = withStar(1000);
        check.noArgument("1 to 0", () -> x.observe(0, 1, 0));
        check.noArgument("999 to 998", () -> x.observe(0, 999, 998));
        check.noArgument("999 to 0", () -> x.observe(0, 999, 0));
        check.due("500 to 500", x.observe(0, 500, 500), 1);
        check.due("499 to 500", x.observe(0, 499, 500), 1);
        check.due("nothing else was kept", x.observe(0, 0, 999), 998);
    }

    // ---- promise 9: kept

    @Holds(in = "Promise 9", says = "Returns the light that was kept of an hour, as a long by the bits of the double.")
    static void keptAnswersTheLightOfThatDay(Check check) {
        Transitry x = withStar(1003);
        x.planet(0, 2, 0, 1, 137);
        x.observe(0, 0, 999);
        x.planet(0, 2, 1, 1, 200);
        x.blend(0, 9);
        x.cloud(0, 999);
        check.dueDouble("the first hour", x.kept(0, 0), 1003.0 * (863 / 1000.0));
        check.dueDouble("the last hour", x.kept(0, 999), 1003.0);
        check.dueDouble("the light of now is another", x.light(0, 999), 1003.0 * (800 / 1000.0) + 9.0);
    }

    @Holds(in = "Promise 9", says = "Returns the bits; NONE if it was not kept.")
    static void keptAnswersNoneOfAnHourThatWasNotKept(Check check) {
        Transitry x = withStar(1000);
        x.cloud(7, 7);
        check.due("nothing was observed", x.kept(0, 0), -1L);
        x.observe(0, 5, 8);
        check.due("the hour ahead", x.kept(0, 4), -1L);
        check.due("the hour behind", x.kept(0, 9), -1L);
        check.due("a hidden hour", x.kept(0, 7), -1L);
        check.due("the bits of 1000.0", x.kept(0, 8), 0x408F400000000000L);
    }

    @Holds(in = "Promise 9", says = "Throws `IndexOutOfBoundsException` as told, of both")
    static void keptRefusesNoStarAndNoHour(Check check) {
        Transitry x = withStar(1000);
        x.observe(0, 0, 999);
        check.noIndex("star", Check.beyond(0, 0), star -> x.kept(star, 0));
        check.noIndex("hour", Check.beyond(0, 999), hour -> x.kept(0, hour));
        check.noIndex("both", Check.beyond(0, 999), both -> x.kept(both, both));
        check.dueDouble("the first hour", x.kept(0, 0), 1000.0);
        check.dueDouble("the last hour", x.kept(0, 999), 1000.0);
    }

    // ---- promise 10: score

    @Holds(in = "Promise 10", says = "Returns the score of a period, as a long by the bits of the double.")
    static void scoreAnswersTheBits(Check check) {
        Transitry x = withDipInHour39();
        x.observe(0, 0, 39);
        check.due("the bits of 195.0", x.score(0, 60), 0x4068600000000000L);
        check.due("the bits of 100.0", x.score(0, 2), 0x4059000000000000L);
        Transitry y = withStar(1000);
        y.observe(0, 0, 39);
        check.due("the bits of 0.0", y.score(0, 2), 0L);
    }

    @Holds(in = "Promise 10", says = "- `period`: 2 to 60")
    static void scoreTakesTheLeastAndTheGreatestPeriod(Check check) {
        Transitry x = withDipInHour39();
        x.observe(0, 0, 39);
        check.dueDouble("the least", x.score(0, 2), 100.0);
        check.dueDouble("the greatest", x.score(0, 60), 195.0);
    }

    @Holds(in = "Promise 10", says = "Throws `IndexOutOfBoundsException` as told")
    static void scoreRefusesNoStar(Check check) {
        Transitry x = withStar(1000);
        x.observe(0, 0, 999);
        check.noIndex("star", Check.beyond(0, 0), star -> x.score(star, 2));
    }

    @Holds(in = "Promise 10", says = "Throws `IllegalArgumentException` if period is out of range")
    static void scoreRefusesAPeriodOutOfRange(Check check) {
        Transitry x = withStar(1000);
        x.observe(0, 0, 999);
        check.noArgument("period", Check.beyond(2, 60), period -> x.score(0, period));
        check.noArgument("period", new int[] {0, -1, -2, 120}, period -> x.score(0, period));
    }

    @Holds(in = "Promise 10", says = "Throws `IllegalStateException` if fewer than 20 hours were kept")
    static void scoreRefuses19HoursAndTakes20(Check check) {
        Transitry x = withDipInHour39();
        check.noState("0 hours, by", new int[] {2, 60}, period -> x.score(0, period));
        x.observe(0, 21, 39);
        check.noState("19 hours, by", new int[] {2, 60}, period -> x.score(0, period));
        x.observe(0, 20, 20);
        check.dueDouble("20 hours", x.score(0, 60), 990.0 - 800.0);
    }

    // ---- promise 11: phase

    @Holds(in = "Promise 11", says = "Returns the phase of a period.")
    static void phaseAnswersAFoldOfThatPeriod(Check check) {
        Transitry x = withDipInHour39();
        x.observe(0, 0, 39);
        check.due("by 60", x.phase(0, 60), 39);
        check.due("by 40", x.phase(0, 40), 39);
        check.due("by 39", x.phase(0, 39), 0);
        check.due("by 38", x.phase(0, 38), 1);
        check.due("by 2", x.phase(0, 2), 1);
    }

    @Holds(in = "Promise 11", says = "- `period`: 2 to 60")
    static void phaseTakesTheLeastAndTheGreatestPeriod(Check check) {
        Transitry x = withStar(1000);
        x.planet(0, 60, 59, 1, 200);
        x.observe(0, 0, 59);
        check.due("the least", x.phase(0, 2), 1);
        check.due("the greatest", x.phase(0, 60), 59);
    }

    @Holds(in = "Promise 11", says = "Throws `IndexOutOfBoundsException` as told")
    static void phaseRefusesNoStar(Check check) {
        Transitry x = withStar(1000);
        x.observe(0, 0, 999);
        check.noIndex("star", Check.beyond(0, 0), star -> x.phase(star, 2));
    }

    @Holds(in = "Promise 11", says = "Throws `IllegalArgumentException` if period is out of range")
    static void phaseRefusesAPeriodOutOfRange(Check check) {
        Transitry x = withStar(1000);
        x.observe(0, 0, 999);
        check.noArgument("period", Check.beyond(2, 60), period -> x.phase(0, period));
        check.noArgument("period", new int[] {0, -1, -2, 120}, period -> x.phase(0, period));
    }

    @Holds(in = "Promise 11", says = "Throws `IllegalStateException` if fewer than 20 hours were kept")
    static void phaseRefuses19HoursAndTakes20(Check check) {
        Transitry x = withDipInHour39();
        check.noState("0 hours, by", new int[] {2, 60}, period -> x.phase(0, period));
        x.observe(0, 21, 39);
        check.noState("19 hours, by", new int[] {2, 60}, period -> x.phase(0, period));
        x.observe(0, 20, 20);
        check.due("20 hours", x.phase(0, 60), 39);
    }

    // ---- promise 12: period

    @Holds(in = "Promise 12", says = "Returns the period of a star.")
    static void periodAnswersThatOfTheStarAsked(Check check) {
        Transitry x = new Transitry();
        for (int star = 0; star < 6; star++) {
            x.star(1000);
            x.planet(star, 11 + star, star, 1, 100);
            x.observe(star, 0, 399);
        }
        for (int star = 0; star < 6; star++) {
            check.due("star " + star, x.period(star, 0), 11 + star);
        }
    }

    @Holds(in = "Promise 12", says = "- `threshold`: 0 to 1000000")
    static void periodTakesTheLeastAndTheGreatestThreshold(Check check) {
        Transitry x = withStar(1000000);
        x.planet(0, 2, 0, 1, 200);
        x.observe(0, 0, 999);
        check.due("the least", x.period(0, 0), 2);
        check.due("the greatest", x.period(0, 1000000), 2);
    }

    @Holds(in = "Promise 12", says = "Throws `IndexOutOfBoundsException` as told")
    static void periodRefusesNoStar(Check check) {
        Transitry x = withDipInHour39();
        x.observe(0, 0, 39);
        check.noIndex("star", Check.beyond(0, 0), star -> x.period(star, 0));
    }

    @Holds(in = "Promise 12", says = "Throws `IllegalArgumentException` if threshold is out of range")
    static void periodRefusesAThresholdOutOfRange(Check check) {
        Transitry x = withDipInHour39();
        x.observe(0, 0, 39);
        check.noArgument("threshold", Check.beyond(0, 1000000), threshold -> x.period(0, threshold));
    }

    @Holds(in = "Promise 12", says = "Throws `IllegalStateException` if there is none")
    static void periodRefusesBothReasonsWhyThereIsNone(Check check) {
        Transitry x = withDipInHour39();
        check.noState("0 hours, by", new int[] {0, 1000000}, threshold -> x.period(0, threshold));
        x.observe(0, 21, 39);
        check.noState("19 hours, by", new int[] {0, 1000000}, threshold -> x.period(0, threshold));
        x.observe(0, 20, 20);
        check.noState("no score is greater, by", new int[] {190, 1000000}, threshold -> x.period(0, threshold));
        check.due("there is one", x.period(0, 189), 20);
    }

    // ---- promise 13: whyNot

    @Holds(in = "Promise 13", says = "Returns why a star has no period.")
    static void whyNotTellsOfTheStarAsked(Check check) {
        Transitry x = withDipInHour39();
        x.star(1000);
        x.star(1000);
        x.observe(0, 0, 39);
        x.observe(1, 0, 39);
        check.due("star 0 has one", x.whyNot(0, 0), 0);
        check.due("star 1 is steady", x.whyNot(1, 0), 2);
        check.due("star 2 has no hours", x.whyNot(2, 0), 1);
    }

    @Holds(in = "Promise 13", says = "- `threshold`: 0 to 1000000")
    static void whyNotTakesTheLeastAndTheGreatestThreshold(Check check) {
        Transitry x = withDipInHour39();
        x.observe(0, 0, 39);
        check.due("the least", x.whyNot(0, 0), 0);
        check.due("the greatest", x.whyNot(0, 1000000), 2);
    }

    @Holds(in = "Promise 13", says = "Returns 0 if it has one, otherwise 1 or 2.")
    static void whyNotAnswers0Or1Or2(Check check) {
        Transitry x = withDipInHour39();
        x.observe(0, 21, 39);
        check.due("19 hours", x.whyNot(0, 0), 1);
        check.due("19 hours, by a threshold that no score is greater than", x.whyNot(0, 1000000), 1);
        x.observe(0, 20, 20);
        check.due("20 hours, by 189", x.whyNot(0, 189), 0);
        check.due("20 hours, by 190", x.whyNot(0, 190), 2);
    }

    @Holds(in = "Promise 13", says = "Throws `IndexOutOfBoundsException` as told")
    static void whyNotRefusesNoStar(Check check) {
        Transitry x = withDipInHour39();
        x.observe(0, 0, 39);
        check.noIndex("star", Check.beyond(0, 0), star -> x.whyNot(star, 0));
    }

    @Holds(in = "Promise 13", says = "Throws `IllegalArgumentException` if threshold is out of range")
    static void whyNotRefusesAThresholdOutOfRange(Check check) {
        Transitry x = withDipInHour39();
        check.noArgument("threshold, no hours", Check.beyond(0, 1000000), threshold -> x.whyNot(0, threshold));
        x.observe(0, 0, 39);
        check.noArgument("threshold", Check.beyond(0, 1000000), threshold -> x.whyNot(0, threshold));
    }

    // ---- promise 14: oddEven

    @Holds(in = "Promise 14", says = "Returns by how much odd dips differ from even ones, as a long by the bits of"
            + " the double.")
    static void oddEvenAnswersTheBits(Check check) {
        Transitry x = withStar(1000);
        x.planet(0, 20, 3, 1, 100);
        x.planet(0, 20, 13, 1, 50);
        x.observe(0, 0, 99);
        check.due("the bits of -50.0", x.oddEven(0, 10), 0xC049000000000000L);
        check.due("the bits of 0.0", x.oddEven(0, 20), 0L);
        Transitry y = withStar(1000);
        y.planet(0, 20, 3, 1, 50);
        y.planet(0, 20, 13, 1, 100);
        y.observe(0, 0, 99);
        check.due("the bits of 50.0", y.oddEven(0, 10), 0x4049000000000000L);
    }

    @Holds(in = "Promise 14", says = "- `period`: 2 to 60")
    static void oddEvenTakesTheLeastAndTheGreatestPeriod(Check check) {
        Transitry x = withStar(1000);
        x.planet(0, 4, 1, 1, 100);
        x.observe(0, 0, 119);
        check.due("the least phase", x.phase(0, 2), 1);
        check.dueDouble("the least", x.oddEven(0, 2), 900.0 - 1000.0);
        check.due("the greatest phase", x.phase(0, 60), 1);
        check.dueDouble("the greatest", x.oddEven(0, 60), 0.0);
    }

    @Holds(in = "Promise 14", says = "Throws `IndexOutOfBoundsException` as told")
    static void oddEvenRefusesNoStar(Check check) {
        Transitry x = withStar(1000);
        x.observe(0, 0, 999);
        check.noIndex("star", Check.beyond(0, 0), star -> x.oddEven(star, 2));
    }

    @Holds(in = "Promise 14", says = "Throws `IllegalArgumentException` if period is out of range")
    static void oddEvenRefusesAPeriodOutOfRange(Check check) {
        Transitry x = withStar(1000);
        x.observe(0, 0, 999);
        check.noArgument("period", Check.beyond(2, 60), period -> x.oddEven(0, period));
        check.noArgument("period", new int[] {0, -1, -2, 120}, period -> x.oddEven(0, period));
    }

    @Holds(in = "Promise 14", says = "Throws `IllegalStateException` if fewer than 20 hours were kept")
    static void oddEvenRefuses19HoursAndTakes20(Check check) {
        Transitry x = withStar(1000);
        x.planet(0, 4, 0, 1, 100);
        check.noState("0 hours, by", new int[] {2, 60}, period -> x.oddEven(0, period));
        x.observe(0, 0, 18);
        check.noState("19 hours, by", new int[] {2, 60}, period -> x.oddEven(0, period));
        x.observe(0, 999, 999);
        check.dueDouble("20 hours", x.oddEven(0, 2), -100.0);
    }
}
