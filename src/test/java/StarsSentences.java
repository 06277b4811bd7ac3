/** The document's sentences on stars: "Terms" up to the light of a star, and promises 1 to 6. */
final class StarsSentences {
    private static final int MIN = Integer.MIN_VALUE;
    private static final int MAX = Integer.MAX_VALUE;

    private static Transitry withStars(int stars) {
        Transitry x = new Transitry();
        for (int i = 0; i < stars; i++) {
            x.star(1000);
        }
        return x;
    }

    private static double quotient(int depth) {
        return (1000 - depth) / 1000.0;
    }

    // ---- what an object is

    @Holds(in = "What it is", says = "An object is used for at most 512 calls after it has been made;")
    static void call512IsStillAnswered(Check check) {
        Transitry x = withStars(2);
        x.planet(0, 60, 39, 1, 200);
        x.observe(0, 0, 39);
        for (int call = 5; call <= 500; call++) {
            x.score(0, 60);
        }
        for (int world = 0; world < 5; world++) {
            check.due("call " + (501 + world) + " lists", x.world(0, 100), world);
        }
        check.due("call 506 writes", x.paper(0, Transitry.NONE), 0);
        check.due("call 507 hides", x.cloud(0, 999), 1000);
        check.noState("call 508 refuses", () -> x.period(1, 0));
        check.due("call 509 withdraws", x.withdraw(0), 1);
        check.due("call 510 tells a planet", x.planet(0, 2, 0, 1, 1), 2);
        check.due("call 511 searches", x.period(0, 194), 40);
        check.due("call 512 searches anew", x.periodAnew(4), 40);
    }

    @Holds(in = "What it is", says = "An object is used for at most 512 calls after it has been made;")
    static void call512IsStillAnsweredBehindCallsThatThrow(Check check) {
        Transitry x = new Transitry();
        for (int call = 1; call <= 510; call++) {
            check.noArgument("call " + call, () -> x.star(999));
        }
        check.due("call 511", x.star(1000), 0);
        check.dueDouble("call 512", x.light(0, 999), 1000.0);
    }

    // ---- terms: hours, stars, planets, spots

    @Holds(in = "Terms", says = "Hours are 0 to 999.")
    static void hoursAre0And999(Check check) {
        Transitry x = withStars(1);
        for (int hour : new int[] {0, 999}) {
            check.dueDouble("light in hour " + hour, x.light(0, hour), 1000.0);
            check.due("nothing kept of hour " + hour, x.kept(0, hour), Transitry.NONE);
            check.due("observe hour " + hour, x.observe(0, hour, hour), 1);
            check.dueDouble("kept of hour " + hour, x.kept(0, hour), 1000.0);
        }
        check.due("observe all hours", x.observe(0, 0, 999), 998);
        check.due("a cloud in hour 0", x.cloud(0, 0), 1);
        check.due("a cloud in hour 999", x.cloud(999, 999), 2);
        check.due("a cloud in all hours", x.cloud(0, 999), 1000);
    }

    @Holds(in = "Terms", says = "Hours are 0 to 999.")
    static void hoursAreNotBelow0NorAbove999(Check check) {
        Transitry x = withStars(1);
        int[] noHours = Check.beyond(0, 999);
        check.noIndex("light in hour", noHours, hour -> x.light(0, hour));
        check.noIndex("kept of hour", noHours, hour -> x.kept(0, hour));
        check.noIndex("cloud from hour", noHours, hour -> x.cloud(hour, 999));
        check.noIndex("cloud to hour", noHours, hour -> x.cloud(0, hour));
        check.noIndex("cloud from and to hour", noHours, hour -> x.cloud(hour, hour));
        check.noIndex("observe from hour", noHours, hour -> x.observe(0, hour, 999));
        check.noIndex("observe to hour", noHours, hour -> x.observe(0, 0, hour));
        check.noIndex("observe from and to hour", noHours, hour -> x.observe(0, hour, hour));
    }

    @Holds(in = "Terms", says = "Stars are numbered from 0, at most 6;")
    static void starsAreNumberedFrom0To5(Check check) {
        Transitry x = new Transitry();
        for (int star = 0; star < 6; star++) {
            check.due("star", x.star(1000 + star), star);
        }
        check.noState("a seventh star", () -> x.star(1000));
        for (int star = 0; star < 6; star++) {
            check.dueDouble("light of star " + star, x.light(star, 0), 1000.0 + star);
        }
        check.noIndex("light of star", Check.beyond(0, 5), star -> x.light(star, 0));
    }

    @Holds(in = "Terms", says = "a star has a light, 1000 to 1000000,")
    static void aStarHasALightFrom1000To1000000(Check check) {
        Transitry x = new Transitry();
        check.noArgument("star", Check.beyond(1000, 1000000), x::star);
        x.star(1000);
        x.star(1000000);
        check.dueDouble("the least light", x.light(0, 0), 1000.0);
        check.dueDouble("the greatest light", x.light(1, 999), 1000000.0);
    }

    @Holds(in = "Terms", says = "up to 4 planets,")
    static void eachStarHasNoneToFourPlanets(Check check) {
        Transitry x = withStars(6);
        for (int star = 0; star < 6; star++) {
            double light = 1000.0;
            check.dueDouble("no planet of star " + star, x.light(star, 0), light);
            for (int planet = 1; planet <= 4; planet++) {
                check.due("planet of star " + star, x.planet(star, 60, 0, 1, 100 + planet), planet);
                light = light * quotient(100 + planet);
                check.dueDouble(planet + " planets of star " + star, x.light(star, 0), light);
            }
            int full = star;
            check.noState("a fifth planet of star " + star, () -> x.planet(full, 60, 0, 1, 1));
            check.dueDouble("still 4 planets of star " + star, x.light(star, 0), light);
        }
    }

    @Holds(in = "Terms", says = "spots, and a blend behind it, 0 to 1000000, 0 at first.")
    static void aBlendIs0AtFirstAndAtMost1000000(Check check) {
        Transitry x = new Transitry();
        x.star(1000000);
        check.dueDouble("no blend at first", x.light(0, 0), 1000000.0);
        check.due("the blend at first", x.blend(0, 1000000), 0);
        check.dueDouble("the greatest blend", x.light(0, 0), 2000000.0);
        check.due("the greatest blend before", x.blend(0, 0), 1000000);
        check.dueDouble("the least blend", x.light(0, 0), 1000000.0);
        check.noArgument("blend", Check.beyond(0, 1000000), light -> x.blend(0, light));
        check.dueDouble("still the least blend", x.light(0, 0), 1000000.0);
    }

    @Holds(in = "Terms", says = "A planet has a period, 2 to 60,")
    static void aPlanetDipsByAPeriodOf2(Check check) {
        Transitry x = withStars(1);
        x.planet(0, 2, 0, 1, 100);
        for (int hour : new int[] {0, 2, 4, 500, 996, 998}) {
            check.dueDouble("a dip in hour " + hour, x.light(0, hour), 1000.0 * quotient(100));
            check.dueDouble("no dip in hour " + (hour + 1), x.light(0, hour + 1), 1000.0);
        }
    }

    @Holds(in = "Terms", says = "A planet has a period, 2 to 60,")
    static void aPlanetDipsByAPeriodOf60(Check check) {
        Transitry x = withStars(1);
        x.planet(0, 60, 0, 1, 100);
        for (int hour = 0; hour < 180; hour++) {
            boolean dips = hour == 0 || hour == 60 || hour == 120;
            check.dueDouble("light in hour " + hour, x.light(0, hour), dips ? 1000.0 * quotient(100) : 1000.0);
        }
        check.dueDouble("the last dip", x.light(0, 960), 1000.0 * quotient(100));
        check.dueDouble("the hour ahead of it", x.light(0, 959), 1000.0);
        check.dueDouble("the hour behind it", x.light(0, 961), 1000.0);
    }

    @Holds(in = "Terms", says = "A planet has a period, 2 to 60,")
    static void aPlanetHasNoPeriodBelow2NorAbove60(Check check) {
        Transitry x = withStars(1);
        check.noArgument("period", Check.beyond(2, 60), period -> x.planet(0, period, 0, 1, 1));
        check.noArgument("period", new int[] {0, -2, -60}, period -> x.planet(0, period, 0, 1, 1));
        check.due("none was told", x.planet(0, 60, 0, 1, 1), 1);
    }

    @Holds(in = "Terms", says = "a phase, 0 to the period less 1,")
    static void aPhaseIs0ToThePeriodLess1ForEachPeriod(Check check) {
        for (int p = 2; p <= 60; p++) {
            int period = p;
            Transitry x = withStars(1);
            check.noArgument("period " + period + ", phase", Check.beyond(0, period - 1),
                    phase -> x.planet(0, period, phase, 1, 1));
            check.due("period " + period + ", the least phase", x.planet(0, period, 0, 1, 1), 1);
            check.due("period " + period + ", the greatest phase", x.planet(0, period, period - 1, 1, 1), 2);
            check.dueDouble("the least dips in hour 0", x.light(0, 0), 1000.0 * quotient(1));
            check.dueDouble("the greatest dips in hour " + (period - 1), x.light(0, period - 1), 1000.0 * quotient(1));
        }
    }

    @Holds(in = "Terms", says = "a length, 1 to 4, but less than the period,")
    static void aLengthIs1To4ButLessThanEachPeriod(Check check) {
        for (int p = 2; p <= 60; p++) {
            int period = p;
            int greatest = period == 2 ? 1 : period == 3 ? 2 : period == 4 ? 3 : 4;
            Transitry x = withStars(1);
            check.noArgument("period " + period + ", length", Check.beyond(1, greatest),
                    length -> x.planet(0, period, 0, length, 1));
            for (int length = 1; length <= greatest; length++) {
                check.due("period " + period + ", length " + length, x.planet(0, period, 0, length, 1), length);
            }
        }
    }

    @Holds(in = "Terms", says = "a length, 1 to 4, but less than the period,")
    static void aDipIsAsLongAsItsLength(Check check) {
        for (int length = 1; length <= 4; length++) {
            Transitry x = withStars(1);
            x.planet(0, 20, 7, length, 100);
            check.dueDouble("the hour ahead of a dip", x.light(0, 26), 1000.0);
            check.dueDouble("its first hour", x.light(0, 27), 900.0);
            check.dueDouble("its last hour", x.light(0, 26 + length), 900.0);
            check.dueDouble("the hour behind it", x.light(0, 27 + length), 1000.0);
        }
    }

    @Holds(in = "Terms", says = "and a depth, 1 to 200.")
    static void aDepthIs1To200(Check check) {
        Transitry x = withStars(2);
        check.noArgument("depth", Check.beyond(1, 200), depth -> x.planet(0, 2, 0, 1, depth));
        check.due("the least depth", x.planet(0, 2, 0, 1, 1), 1);
        check.due("the greatest depth", x.planet(1, 2, 0, 1, 200), 1);
        check.dueDouble("a dip of the least depth", x.light(0, 0), 999.0);
        check.dueDouble("a dip of the greatest depth", x.light(1, 0), 800.0);
    }

    @Holds(in = "Terms", says = "Spots have a spin, 4 to 60,")
    static void aSpinIs4To60(Check check) {
        Transitry x = withStars(2);
        check.noArgument("spin", Check.beyond(4, 60), spin -> x.spots(0, spin, 100));
        check.noArgument("spin", new int[] {0, 1, 2, -4}, spin -> x.spots(0, spin, 100));
        check.due("the least spin", x.spots(0, 4, 100), 0);
        check.due("the greatest spin", x.spots(1, 60, 100), 0);
        check.dueDouble("the least spin has turned", x.light(0, 4), 900.0);
        check.dueDouble("the greatest spin has not turned", x.light(1, 59), 1000.0);
        check.dueDouble("the greatest spin has turned", x.light(1, 60), 900.0);
    }

    @Holds(in = "Terms", says = "and a depth, 0 to 100;")
    static void aDepthOfSpotsIs0To100(Check check) {
        Transitry x = withStars(1);
        check.noArgument("depth of spots", Check.beyond(0, 100), depth -> x.spots(0, 4, depth));
        check.due("the least depth", x.spots(0, 4, 0), 0);
        check.dueDouble("spots of the least depth", x.light(0, 0), 1000.0);
        check.due("the greatest depth", x.spots(0, 4, 100), 0);
        check.dueDouble("spots of the greatest depth", x.light(0, 0), 900.0);
        check.due("the greatest depth before", x.spots(0, 4, 0), 100);
    }

    @Holds(in = "Terms", says = "there are none at first.")
    static void thereAreNoSpotsAtFirst(Check check) {
        Transitry x = withStars(1);
        for (int hour = 0; hour < 60; hour++) {
            check.dueDouble("no spots in hour " + hour, x.light(0, hour), 1000.0);
        }
        check.due("no depth of spots", x.spots(0, 4, 50), 0);
    }

    // ---- terms: light

    @Holds(in = "Terms", says = "The light of a star in an hour is a double: its light,")
    static void lightIsADoubleByItsBits(Check check) {
        int[] lights = {
            1000, 1001, 1023, 1024, 1025, 2047, 2048, 65535, 65536, 333333, 524287, 524288, 524289, 999999, 1000000,
        };
        for (int light : lights) {
            Transitry x = new Transitry();
            x.star(light);
            check.dueDouble("light " + light, x.light(0, 0), light);
        }
        Transitry x = withStars(1);
        check.due("the bits of 1000.0", x.light(0, 0), 0x408F400000000000L);
    }

    @Holds(in = "Terms", says = "for each planet in the order in which they were told")
    static void planetsDimInTheOrderInWhichTheyWereTold(Check check) {
        int[] depths = {7, 33, 151, 199};
        int[][] orders = {
            {0, 1, 2, 3}, {3, 2, 1, 0}, {1, 0, 3, 2}, {2, 3, 0, 1},
            {0, 2, 1, 3}, {3, 0, 1, 2}, {1, 3, 0, 2}, {2, 0, 3, 1},
        };
        boolean differ = false;
        double first = 0.0;
        for (int[] order : orders) {
            Transitry x = new Transitry();
            x.star(999983);
            double want = 999983.0;
            for (int i : order) {
                x.planet(0, 60 - i, 0, 4, depths[i]);
                want = want * quotient(depths[i]);
            }
            check.dueDouble("all four dip", x.light(0, 0), want);
            first = order[0] == 0 && order[1] == 1 ? want : first;
            differ = differ || want != first;
        }
        check.due("the order shows in the last bits", differ, true);
    }

    @Holds(in = "Terms", says = "times a quotient, 1000 less the depth, divided by 1000.0,")
    static void aDipIsAQuotientOf1000LessTheDepth(Check check) {
        int otherWay = 0;
        for (int depth = 1; depth <= 200; depth++) {
            Transitry x = new Transitry();
            x.star(1003);
            x.planet(0, 2, 0, 1, depth);
            check.dueDouble("a dip of " + depth, x.light(0, 0), 1003.0 * quotient(depth));
            otherWay += 1003.0 * (1000 - depth) / 1000.0 == 1003.0 * quotient(depth) ? 0 : 1;
        }
        check.due("the light is not multiplied first", otherWay > 0, true);
    }

    @Holds(in = "Terms", says = "if the hour less the phase has a remainder by the period (0 or more, also below 0)"
            + " that is less than the length;")
    static void anHourLessThePhaseBelow0HasARemainderOf0OrMore(Check check) {
        Transitry x = withStars(1);
        x.planet(0, 10, 9, 3, 100);
        check.dueDouble("hour 0: -9 has the remainder 1", x.light(0, 0), 900.0);
        check.dueDouble("hour 1: -8 has the remainder 2", x.light(0, 1), 900.0);
        check.dueDouble("hour 2: -7 has the remainder 3", x.light(0, 2), 1000.0);
        check.dueDouble("hour 7: -2 has the remainder 8", x.light(0, 7), 1000.0);
        check.dueDouble("hour 8: -1 has the remainder 9", x.light(0, 8), 1000.0);
        check.dueDouble("hour 9: 0 has the remainder 0", x.light(0, 9), 900.0);
    }

    @Holds(in = "Terms", says = "if the hour less the phase has a remainder by the period (0 or more, also below 0)"
            + " that is less than the length;")
    static void aDipWithoutWrapAroundEndsAtThePeriodsEnd(Check check) {
        Transitry x = withStars(2);
        x.planet(0, 10, 9, 1, 100);
        x.planet(1, 10, 6, 4, 100);
        for (int star = 0; star < 2; star++) {
            check.dueDouble("hour 0 of star " + star, x.light(star, 0), 1000.0);
            check.dueDouble("hour 9 of star " + star, x.light(star, 9), 900.0);
            check.dueDouble("hour 10 of star " + star, x.light(star, 10), 1000.0);
        }
        check.dueDouble("the hour ahead of the dip", x.light(1, 5), 1000.0);
        check.dueDouble("the first hour of the dip", x.light(1, 6), 900.0);
    }

    @Holds(in = "Terms", says = "if the hour less the phase has a remainder by the period (0 or more, also below 0)"
            + " that is less than the length;")
    static void dipsComeBackByEachPeriodAndPhase(Check check) {
        for (int period = 2; period <= 60; period++) {
            for (int phase : new int[] {0, period / 2, period - 1}) {
                for (int length = 1; length <= Math.min(4, period - 1); length++) {
                    compareDips(check, period, phase, length);
                }
            }
        }
    }

    private static void compareDips(Check check, int period, int phase, int length) {
        // Told without a remainder: each dip begins a period behind the one before, the first ahead of hour 0.
        boolean[] dips = new boolean[1000];
        for (int begin = phase - period; begin < 1000; begin += period) {
            for (int hour = Math.max(0, begin); hour < Math.min(1000, begin + length); hour++) {
                dips[hour] = true;
            }
        }
        Transitry x = withStars(1);
        x.planet(0, period, phase, length, 100);
        for (int hour = 0; hour < 2 * period + 2; hour++) {
            compareDip(check, x, hour, dips[hour]);
        }
        for (int hour = 999 - period; hour < 1000; hour++) {
            compareDip(check, x, hour, dips[hour]);
        }
    }

    private static void compareDip(Check check, Transitry x, int hour, boolean dips) {
        check.dueDouble("light in hour " + hour, x.light(0, hour), dips ? 900.0 : 1000.0);
    }

    @Holds(in = "Terms", says = "then times such a quotient of the spots' depth,")
    static void spotsDimBehindThePlanets(Check check) {
        Transitry x = new Transitry();
        x.star(999983);
        x.spots(0, 60, 97);
        x.planet(0, 60, 0, 1, 199);
        x.planet(0, 60, 0, 1, 77);
        double want = 999983.0 * quotient(199) * quotient(77) * quotient(97);
        double spotsFirst = 999983.0 * quotient(97) * quotient(199) * quotient(77);
        check.due("the order shows in the last bits", want != spotsFirst, true);
        check.dueDouble("planets, then spots", x.light(0, 0), want);
        check.dueDouble("spots without a dip", x.light(0, 1), 999983.0 * quotient(97));
    }

    @Holds(in = "Terms", says = "then times such a quotient of the spots' depth,")
    static void eachDepthOfSpotsIsSuchAQuotient(Check check) {
        Transitry x = new Transitry();
        x.star(1003);
        for (int depth = 0; depth <= 100; depth++) {
            x.spots(0, 4, depth);
            check.dueDouble("spots of " + depth, x.light(0, 0), 1003.0 * quotient(depth));
        }
    }

    @Holds(in = "Terms", says = "if the remainder of the hour by the spin is less than a quarter of the spin,"
            + " rounded down;")
    static void spotsShowInAQuarterOfEachSpinRoundedDown(Check check) {
        for (int spin = 4; spin <= 60; spin++) {
            int quarter = 1;
            while (4 * (quarter + 1) <= spin) {
                quarter++;
            }
            Transitry x = withStars(1);
            x.spots(0, spin, 100);
            for (int turn = 0; turn + spin <= 1000; turn += 5 * spin) {
                String when = " of spin " + spin + " from hour " + turn;
                check.dueDouble("the first hour" + when, x.light(0, turn), 900.0);
                check.dueDouble("the last of the quarter" + when, x.light(0, turn + quarter - 1), 900.0);
                check.dueDouble("the hour behind the quarter" + when, x.light(0, turn + quarter), 1000.0);
                check.dueDouble("the last hour" + when, x.light(0, turn + spin - 1), 1000.0);
            }
        }
    }

    @Holds(in = "Terms", says = "if the remainder of the hour by the spin is less than a quarter of the spin,"
            + " rounded down;")
    static void quartersAreRoundedDownFrom7Too(Check check) {
        Transitry x = withStars(4);
        x.spots(0, 4, 100);
        x.spots(1, 7, 100);
        x.spots(2, 8, 100);
        x.spots(3, 59, 100);
        double[] second = {1000.0, 1000.0, 900.0, 900.0};
        for (int star = 0; star < 4; star++) {
            check.dueDouble("hour 1 of star " + star, x.light(star, 1), second[star]);
        }
        check.dueDouble("hour 2 by spin 8", x.light(2, 2), 1000.0);
        check.dueDouble("hour 13 by spin 59", x.light(3, 13), 900.0);
        check.dueDouble("hour 14 by spin 59", x.light(3, 14), 1000.0);
    }

    @Holds(in = "Terms", says = "then the blend is added.")
    static void theBlendIsAddedBehindAllDips(Check check) {
        Transitry x = new Transitry();
        x.star(1000);
        x.planet(0, 60, 0, 2, 200);
        x.spots(0, 4, 100);
        x.blend(0, 1000000);
        check.dueDouble("a dip and spots", x.light(0, 0), 1000.0 * quotient(200) * quotient(100) + 1000000.0);
        check.dueDouble("a dip alone", x.light(0, 1), 1000800.0);
        check.dueDouble("spots alone", x.light(0, 4), 1000900.0);
        check.dueDouble("neither", x.light(0, 2), 1001000.0);
    }

    // ---- promise 1: a new object

    @Holds(in = "Promise 1", says = "Begins without stars,")
    static void aNewObjectHasNoStars(Check check) {
        Transitry x = new Transitry();
        for (int star : new int[] {0, -1, 1, 5, 6, MIN, MAX}) {
            check.noIndex("planet of star " + star, () -> x.planet(star, 2, 0, 1, 1));
            check.noIndex("spots of star " + star, () -> x.spots(star, 4, 0));
            check.noIndex("blend of star " + star, () -> x.blend(star, 0));
            check.noIndex("light of star " + star, () -> x.light(star, 0));
            check.noIndex("observe star " + star, () -> x.observe(star, 0, 0));
            check.noIndex("kept of star " + star, () -> x.kept(star, 0));
            check.noIndex("score of star " + star, () -> x.score(star, 2));
            check.noIndex("phase of star " + star, () -> x.phase(star, 2));
            check.noIndex("period of star " + star, () -> x.period(star, 0));
            check.noIndex("whyNot of star " + star, () -> x.whyNot(star, 0));
            check.noIndex("oddEven of star " + star, () -> x.oddEven(star, 2));
            check.noIndex("world of star " + star, () -> x.world(star, 0));
        }
        check.due("the first star", x.star(1000), 0);
    }

    @Holds(in = "Promise 1", says = "clouds,")
    static void aNewObjectHasNoClouds(Check check) {
        Transitry x = withStars(1);
        check.due("no hour is hidden", x.observe(0, 0, 999), 1000);
        check.due("hidden by the first cloud", new Transitry().cloud(0, 0), 1);
        check.due("hidden by another first cloud", new Transitry().cloud(999, 999), 1);
        check.due("hidden by a cloud in all hours", new Transitry().cloud(0, 999), 1000);
    }

    @Holds(in = "Promise 1", says = "worlds and")
    static void aNewObjectHasNoWorlds(Check check) {
        Transitry x = withStars(1);
        for (int world : new int[] {0, -1, 1, 11, 12, MIN, MAX}) {
            check.noIndex("about " + world, () -> x.about(world, 0));
            check.noIndex("periodAnew of " + world, () -> x.periodAnew(world));
            check.noIndex("paper on " + world, () -> x.paper(world, Transitry.NONE));
            check.noIndex("withdraw " + world, () -> x.withdraw(world));
        }
    }

    @Holds(in = "Promise 1", says = "papers.")
    static void aNewObjectHasNoPapers(Check check) {
        Transitry x = withStars(1);
        check.noIndex("hasFallen", new int[] {0, -1, 1, 29, 30, MIN, MAX}, x::hasFallen);
        x.planet(0, 5, 0, 1, 100);
        x.observe(0, 0, 99);
        x.world(0, 0);
        check.noIndex("paper that cites", new int[] {0, 1, 29, 30, MIN, MAX}, cites -> x.paper(0, cites));
    }

    @Holds(in = "Promise 1", says = "Begins without stars, clouds, worlds and papers.")
    static void aNewObjectTakesNothingFromOthers(Check check) {
        Transitry x = withStars(6);
        x.planet(0, 5, 0, 1, 100);
        x.observe(0, 0, 99);
        x.cloud(0, 999);
        x.world(0, 0);
        x.paper(0, Transitry.NONE);
        Transitry y = new Transitry();
        check.noIndex("stars", () -> y.light(0, 0));
        check.noIndex("worlds", () -> y.about(0, 0));
        check.noIndex("papers", () -> y.hasFallen(0));
        check.due("the first star", y.star(1000), 0);
        check.due("no clouds", y.observe(0, 0, 999), 1000);
        check.due("the other object has its own", x.cloud(0, 0), 1000);
        check.due("the other star has its own", x.observe(1, 0, 999), 0);
    }

    // ---- promise 2: star

    @Holds(in = "Promise 2", says = "Tells a star.")
    static void aStarThatIsToldHasNothingElseYet(Check check) {
        Transitry x = withStars(1);
        check.dueDouble("its light", x.light(0, 0), 1000.0);
        check.due("nothing kept", x.kept(0, 0), Transitry.NONE);
        check.due("no hours", x.whyNot(0, 0), 1);
        check.due("no spots", x.spots(0, 4, 0), 0);
        check.due("no blend", x.blend(0, 0), 0);
        check.due("no planet", x.planet(0, 2, 0, 1, 1), 1);
    }

    @Holds(in = "Promise 2", says = "- `light`: 1000 to 1000000")
    static void starTakesTheLeastAndTheGreatestLight(Check check) {
        Transitry x = new Transitry();
        check.due("the least light", x.star(1000), 0);
        check.due("the greatest light", x.star(1000000), 1);
        check.due("just above the least", x.star(1001), 2);
        check.due("just below the greatest", x.star(999999), 3);
    }

    @Holds(in = "Promise 2", says = "Returns its number.")
    static void starAnswersRisingNumbersFrom0(Check check) {
        Transitry x = new Transitry();
        for (int star = 0; star < 6; star++) {
            check.due("star of alike light", x.star(1000), star);
            check.noArgument("a light out of range takes no number", () -> x.star(999));
        }
    }

    @Holds(in = "Promise 2", says = "Throws `IllegalArgumentException` if light is out of range")
    static void starRefusesALightOutOfRange(Check check) {
        Transitry x = new Transitry();
        check.noArgument("star", Check.beyond(1000, 1000000), x::star);
        check.noArgument("star", new int[] {0, 1, -1, -1000, -1000000}, x::star);
        check.noIndex("none was told", () -> x.light(0, 0));
        check.due("the first one", x.star(1000), 0);
    }

    @Holds(in = "Promise 2", says = "Throws `IllegalStateException` if there are 6")
    static void starRefusesASeventh(Check check) {
        Transitry x = withStars(5);
        check.due("the sixth", x.star(1000), 5);
        check.noState("star", new int[] {1000, 1000000}, x::star);
        check.noArgument("a seventh out of range", Check.beyond(1000, 1000000), x::star);
        check.noIndex("none was told", () -> x.light(6, 0));
    }

    // ---- promise 3: planet

    @Holds(in = "Promise 3", says = "Tells a planet.")
    static void aPlanetThatIsToldDipsItsOwnStarAlone(Check check) {
        Transitry x = withStars(3);
        x.planet(1, 6, 2, 3, 150);
        for (int hour = 0; hour < 30; hour++) {
            boolean dips = hour % 6 >= 2 && hour % 6 <= 4;
            check.dueDouble("star 1 in hour " + hour, x.light(1, hour), dips ? 850.0 : 1000.0);
            check.dueDouble("star 0 in hour " + hour, x.light(0, hour), 1000.0);
            check.dueDouble("star 2 in hour " + hour, x.light(2, hour), 1000.0);
        }
    }

    @Holds(in = "Promise 3", says = "- `period`: 2 to 60")
    static void planetTakesTheLeastAndTheGreatestPeriod(Check check) {
        Transitry x = withStars(1);
        check.due("the least period", x.planet(0, 2, 0, 1, 1), 1);
        check.due("the greatest period", x.planet(0, 60, 0, 1, 1), 2);
        check.due("just above the least", x.planet(0, 3, 0, 1, 1), 3);
        check.due("just below the greatest", x.planet(0, 59, 0, 1, 1), 4);
    }

    @Holds(in = "Promise 3", says = "- `phase`: 0 to period less 1")
    static void planetTakesTheLeastAndTheGreatestPhase(Check check) {
        Transitry x = withStars(1);
        check.due("phase 0 of period 2", x.planet(0, 2, 0, 1, 1), 1);
        check.due("phase 1 of period 2", x.planet(0, 2, 1, 1, 1), 2);
        check.due("phase 0 of period 60", x.planet(0, 60, 0, 1, 1), 3);
        check.due("phase 59 of period 60", x.planet(0, 60, 59, 1, 1), 4);
    }

    @Holds(in = "Promise 3", says = "- `length`: 1 to 4, and less than period")
    static void planetTakesTheLeastAndTheGreatestLength(Check check) {
        Transitry x = withStars(2);
        check.due("length 1 of period 2", x.planet(0, 2, 0, 1, 1), 1);
        check.due("length 2 of period 3", x.planet(0, 3, 0, 2, 1), 2);
        check.due("length 3 of period 4", x.planet(0, 4, 0, 3, 1), 3);
        check.due("length 4 of period 5", x.planet(0, 5, 0, 4, 1), 4);
        check.due("length 1 of period 60", x.planet(1, 60, 0, 1, 1), 1);
        check.due("length 4 of period 60", x.planet(1, 60, 0, 4, 1), 2);
    }

    @Holds(in = "Promise 3", says = "- `length`: 1 to 4, and less than period")
    static void planetTakesNoLengthOfThePeriod(Check check) {
        Transitry x = withStars(1);
        check.noArgument("length and period", new int[] {2, 3, 4}, period -> x.planet(0, period, 0, period, 1));
        check.noArgument("length above period", new int[] {2, 3}, period -> x.planet(0, period, 0, period + 1, 1));
        check.noArgument("length 5 of period", new int[] {5, 6, 60}, period -> x.planet(0, period, 0, 5, 1));
    }

    @Holds(in = "Promise 3", says = "- `depth`: 1 to 200")
    static void planetTakesTheLeastAndTheGreatestDepth(Check check) {
        Transitry x = withStars(1);
        check.due("the least depth", x.planet(0, 2, 0, 1, 1), 1);
        check.due("the greatest depth", x.planet(0, 2, 1, 1, 200), 2);
        check.dueDouble("a dip of the least depth", x.light(0, 0), 999.0);
        check.dueDouble("a dip of the greatest depth", x.light(0, 1), 800.0);
    }

    @Holds(in = "Promise 3", says = "Returns how many the star has then.")
    static void planetAnswersHowManyItsStarHas(Check check) {
        Transitry x = withStars(2);
        for (int planets = 1; planets <= 4; planets++) {
            check.due("of star 0", x.planet(0, 9, 0, 1, 1), planets);
            check.due("of star 1", x.planet(1, 9, 0, 1, 1), planets);
            check.noArgument("one out of range does not count", () -> x.planet(0, 9, 9, 1, 1));
        }
    }

    @Holds(in = "Promise 3", says = "Throws `IndexOutOfBoundsException` as told")
    static void planetRefusesNoStar(Check check) {
        Transitry x = withStars(2);
        check.noIndex("planet of star", Check.beyond(0, 1), star -> x.planet(star, 7, 0, 1, 1));
        Transitry full = withStars(6);
        check.noIndex("planet of star", Check.beyond(0, 5), star -> full.planet(star, 7, 0, 1, 1));
        check.due("the last star", full.planet(5, 7, 0, 1, 1), 1);
    }

    @Holds(in = "Promise 3", says = "Throws `IllegalArgumentException` if period, phase, length or depth is out of"
            + " range")
    static void planetRefusesEachArgumentOutOfRange(Check check) {
        Transitry x = withStars(1);
        check.noArgument("period", Check.beyond(2, 60), period -> x.planet(0, period, 0, 1, 1));
        check.noArgument("phase", Check.beyond(0, 6), phase -> x.planet(0, 7, phase, 1, 1));
        check.noArgument("length", Check.beyond(1, 4), length -> x.planet(0, 7, 0, length, 1));
        check.noArgument("length of period 3", Check.beyond(1, 2), length -> x.planet(0, 3, 0, length, 1));
        check.noArgument("depth", Check.beyond(1, 200), depth -> x.planet(0, 7, 0, 1, depth));
        check.noArgument("phase by a period of the smallest int", () -> x.planet(0, MIN, MAX, 1, 1));
        check.noArgument("phase by a period of the largest int", () -> x.planet(0, MAX, MAX - 1, 1, 1));
        check.dueDouble("no dip was told", x.light(0, 0), 1000.0);
        check.due("none was told", x.planet(0, 7, 0, 1, 1), 1);
    }

    @Holds(in = "Promise 3", says = "Throws `IllegalStateException` if it has 4")
    static void planetRefusesAFifth(Check check) {
        Transitry x = withStars(2);
        for (int i = 0; i < 3; i++) {
            x.planet(0, 60, 1, 1, 200);
        }
        check.due("the fourth", x.planet(0, 60, 1, 1, 200), 4);
        check.noState("a fifth", () -> x.planet(0, 60, 0, 1, 200));
        check.dueDouble("the fifth does not dip", x.light(0, 0), 1000.0);
        check.due("of the other star", x.planet(1, 60, 0, 1, 200), 1);
    }

    // ---- promise 4: spots

    @Holds(in = "Promise 4", says = "Tells spots, in place of those that there were.")
    static void spotsTakeThePlaceOfThoseBefore(Check check) {
        Transitry x = withStars(2);
        x.spots(0, 60, 100);
        check.dueDouble("the first", x.light(0, 14), 900.0);
        x.spots(0, 4, 50);
        check.dueDouble("the spin before is gone", x.light(0, 14), 1000.0);
        check.dueDouble("the depth before is gone", x.light(0, 0), 950.0);
        x.spots(0, 8, 50);
        check.dueDouble("another spin", x.light(0, 4), 1000.0);
        check.dueDouble("another spin's quarter", x.light(0, 1), 950.0);
        check.dueDouble("another star has none", x.light(1, 0), 1000.0);
    }

    @Holds(in = "Promise 4", says = "- `spin`: 4 to 60")
    static void spotsTakeTheLeastAndTheGreatestSpin(Check check) {
        Transitry x = withStars(1);
        check.due("the least spin", x.spots(0, 4, 1), 0);
        check.due("the greatest spin", x.spots(0, 60, 2), 1);
        check.due("just above the least", x.spots(0, 5, 3), 2);
        check.due("just below the greatest", x.spots(0, 59, 4), 3);
    }

    @Holds(in = "Promise 4", says = "- `depth`: 0 to 100")
    static void spotsTakeTheLeastAndTheGreatestDepth(Check check) {
        Transitry x = withStars(1);
        check.due("the greatest depth", x.spots(0, 4, 100), 0);
        check.dueDouble("the greatest", x.light(0, 0), 900.0);
        check.due("the least depth", x.spots(0, 4, 0), 100);
        check.dueDouble("the least", x.light(0, 0), 1000.0);
        check.due("just above the least", x.spots(0, 4, 1), 0);
        check.dueDouble("1", x.light(0, 0), 999.0);
    }

    @Holds(in = "Promise 4", says = "Returns the depth before, 0 without spots.")
    static void spotsAnswerTheDepthBefore(Check check) {
        Transitry x = withStars(2);
        check.due("without spots", x.spots(0, 4, 7), 0);
        check.due("7", x.spots(0, 60, 100), 7);
        check.due("100", x.spots(0, 60, 100), 100);
        check.due("of another star without spots", x.spots(1, 60, 3), 0);
        check.due("100 once more", x.spots(0, 60, 0), 100);
        check.due("spots of depth 0", x.spots(0, 60, 5), 0);
    }

    @Holds(in = "Promise 4", says = "Throws `IndexOutOfBoundsException` as told")
    static void spotsRefuseNoStar(Check check) {
        Transitry x = withStars(2);
        check.noIndex("spots of star", Check.beyond(0, 1), star -> x.spots(star, 4, 1));
        Transitry full = withStars(6);
        check.noIndex("spots of star", Check.beyond(0, 5), star -> full.spots(star, 4, 1));
        check.due("the last star", full.spots(5, 4, 1), 0);
    }

    @Holds(in = "Promise 4", says = "Throws `IllegalArgumentException` if spin or depth is out of range")
    static void spotsRefuseEachArgumentOutOfRange(Check check) {
        Transitry x = withStars(1);
        x.spots(0, 60, 9);
        check.noArgument("spin", Check.beyond(4, 60), spin -> x.spots(0, spin, 1));
        check.noArgument("depth", Check.beyond(0, 100), depth -> x.spots(0, 4, depth));
        check.dueDouble("the spin is as before", x.light(0, 14), 991.0);
        check.due("the depth is as before", x.spots(0, 4, 0), 9);
    }

    // ---- promise 5: blend

    @Holds(in = "Promise 5", says = "Tells the blend behind a star.")
    static void aBlendTakesThePlaceOfThatBefore(Check check) {
        Transitry x = withStars(2);
        x.blend(0, 1000000);
        x.blend(0, 5);
        check.dueDouble("the last one alone", x.light(0, 0), 1005.0);
        check.dueDouble("in each hour", x.light(0, 999), 1005.0);
        check.dueDouble("another star has none", x.light(1, 0), 1000.0);
    }

    @Holds(in = "Promise 5", says = "- `light`: 0 to 1000000")
    static void blendTakesTheLeastAndTheGreatestLight(Check check) {
        Transitry x = withStars(1);
        check.due("the greatest", x.blend(0, 1000000), 0);
        check.dueDouble("light with the greatest", x.light(0, 0), 1001000.0);
        check.due("the least", x.blend(0, 0), 1000000);
        check.dueDouble("light with the least", x.light(0, 0), 1000.0);
        check.due("just above the least", x.blend(0, 1), 0);
        check.due("just below the greatest", x.blend(0, 999999), 1);
    }

    @Holds(in = "Promise 5", says = "Returns that before.")
    static void blendAnswersThatBefore(Check check) {
        Transitry x = withStars(2);
        check.due("none at first", x.blend(0, 7), 0);
        check.due("7", x.blend(0, 7), 7);
        check.due("7 once more", x.blend(0, 1000000), 7);
        check.due("none of another star", x.blend(1, 3), 0);
        check.due("1000000", x.blend(0, 0), 1000000);
    }

    @Holds(in = "Promise 5", says = "Throws `IndexOutOfBoundsException` as told")
    static void blendRefusesNoStar(Check check) {
        Transitry x = withStars(2);
        check.noIndex("blend of star", Check.beyond(0, 1), star -> x.blend(star, 1));
        Transitry full = withStars(6);
        check.noIndex("blend of star", Check.beyond(0, 5), star -> full.blend(star, 1));
        check.due("the last star", full.blend(5, 1), 0);
    }

    @Holds(in = "Promise 5", says = "Throws `IllegalArgumentException` if light is out of range")
    static void blendRefusesALightOutOfRange(Check check) {
        Transitry x = withStars(1);
        x.blend(0, 9);
        check.noArgument("blend", Check.beyond(0, 1000000), light -> x.blend(0, light));
        check.dueDouble("as before", x.light(0, 0), 1009.0);
        check.due("that before", x.blend(0, 0), 9);
    }

    // ---- promise 6: light

    @Holds(in = "Promise 6", says = "Returns the light of a star in an hour, as a long by the bits of the double.")
    static void lightAnswersTheBitsOfTheLeastAndTheGreatestLight(Check check) {
        Transitry x = withStars(2);
        double least = 1000.0;
        for (int i = 0; i < 4; i++) {
            x.planet(0, 2, 0, 1, 200);
            least = least * quotient(200);
        }
        x.spots(0, 4, 100);
        check.dueDouble("the darkest that there can be", x.light(0, 0), least * quotient(100));
        x.star(1000000);
        x.blend(2, 1000000);
        check.dueDouble("the brightest that there can be", x.light(2, 0), 2000000.0);
        check.due("its bits", x.light(2, 0), 0x413E848000000000L);
        check.due("the bits of 800.0", dipOf200(), 0x4089000000000000L);
    }

    private static long dipOf200() {
        Transitry x = withStars(1);
        x.planet(0, 2, 0, 1, 200);
        return x.light(0, 0);
    }

    @Holds(in = "Promise 6", says = "Returns the light of a star in an hour, as a long by the bits of the double.")
    static void lightIsThatOfNowAndChangesNothing(Check check) {
        Transitry x = withStars(1);
        x.cloud(0, 999);
        check.dueDouble("clouds hide no light", x.light(0, 0), 1000.0);
        check.dueDouble("once more", x.light(0, 0), 1000.0);
        check.due("light alone keeps nothing", x.kept(0, 0), Transitry.NONE);
        x.planet(0, 2, 0, 1, 100);
        check.dueDouble("with a planet", x.light(0, 0), 900.0);
    }

    @Holds(in = "Promise 6", says = "Throws `IndexOutOfBoundsException` as told, of both")
    static void lightRefusesNoStarAndNoHour(Check check) {
        Transitry x = withStars(2);
        check.noIndex("light of star", Check.beyond(0, 1), star -> x.light(star, 0));
        check.noIndex("light in hour", Check.beyond(0, 999), hour -> x.light(1, hour));
        check.noIndex("light of star and in hour", Check.beyond(0, 999), both -> x.light(both, both));
    }
}
