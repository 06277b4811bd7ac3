/** The document's sentences on worlds and papers: "Terms" on them, and promises 15 to 20. */
final class WorldsSentences {
    private static final int NONE = Transitry.NONE;
    private static final int MIN = Integer.MIN_VALUE;
    private static final int MAX = Integer.MAX_VALUE;

    /** Star 0 has period 9 and phase 4, star 1 is steady, star 2 has 19 hours alone. */
    private static Transitry withNights() {
        Transitry x = new Transitry();
        x.star(1000);
        x.star(1000);
        x.star(1000);
        x.planet(0, 9, 4, 1, 100);
        x.planet(2, 9, 4, 1, 100);
        x.observe(0, 0, 199);
        x.observe(1, 0, 199);
        x.observe(2, 0, 18);
        return x;
    }

    private static Transitry withWorlds(int worlds) {
        Transitry x = withNights();
        for (int i = 0; i < worlds; i++) {
            x.world(0, 0);
        }
        return x;
    }

    /** A world and this many papers, each of which cites the one before. */
    private static Transitry withChain(int papers) {
        Transitry x = withWorlds(2);
        for (int i = 0; i < papers; i++) {
            x.paper(0, i - 1);
        }
        return x;
    }

    private static void dueFallen(Check check, Transitry x, boolean... fallen) {
        for (int paper = 0; paper < fallen.length; paper++) {
            check.due("paper " + paper + " has fallen", x.hasFallen(paper), fallen[paper]);
        }
    }

    // ---- terms

    @Holds(in = "Terms", says = "A world of a star by a threshold is listed with the period and its phase, as they"
            + " are then;")
    static void aWorldIsListedWithThePeriodAndPhaseOfThen(Check check) {
        Transitry x = new Transitry();
        x.star(1000);
        x.planet(0, 60, 39, 1, 200);
        x.observe(0, 0, 39);
        x.world(0, 100);
        x.observe(0, 40, 999);
        x.world(0, 100);
        check.due("the period of now", x.period(0, 100), 60);
        check.due("the first world's period", x.about(0, 1), 40);
        check.due("the first world's phase", x.about(0, 2), 39);
        check.due("the second world's period", x.about(1, 1), 60);
        check.due("the second world's phase", x.about(1, 2), 39);
    }

    @Holds(in = "Terms", says = "A world of a star by a threshold is listed with the period and its phase, as they"
            + " are then;")
    static void aWorldsPhaseIsThatOfItsPeriod(Check check) {
        for (int period = 2; period <= 60; period++) {
            Transitry x = new Transitry();
            x.star(1000);
            x.planet(0, period, 0, 1, 200);
            x.star(1000);
            x.planet(1, period, period - 1, 1, 200);
            x.observe(0, 0, 999);
            x.observe(1, 0, 999);
            for (int star = 0; star < 2; star++) {
                check.due("world of star " + star, x.world(star, 0), star);
                check.due("period of star " + star, x.about(star, 1), period);
                check.due("phase of star " + star, x.about(star, 2), star == 0 ? 0 : period - 1);
            }
        }
    }

    @Holds(in = "Terms", says = "worlds are numbered from 0, at most 12.")
    static void worldsAreNumberedFrom0To11(Check check) {
        Transitry x = withNights();
        for (int world = 0; world < 12; world++) {
            check.due("world", x.world(0, 0), world);
        }
        check.noState("a thirteenth", () -> x.world(0, 0));
        for (int world = 0; world < 12; world++) {
            check.due("period of world " + world, x.about(world, 1), 9);
        }
        check.noIndex("about", Check.beyond(0, 11), world -> x.about(world, 0));
    }

    @Holds(in = "Terms", says = "worlds are numbered from 0, at most 12.")
    static void withdrawnWorldsKeepTheirNumbers(Check check) {
        Transitry x = withWorlds(3);
        x.withdraw(1);
        check.due("the next", x.world(0, 0), 3);
        for (int world = 4; world < 12; world++) {
            x.world(0, 0);
        }
        x.withdraw(0);
        x.withdraw(11);
        check.noState("a thirteenth", () -> x.world(0, 0));
    }

    @Holds(in = "Terms", says = "Papers are numbered from 0, at most 30;")
    static void papersAreNumberedFrom0To29(Check check) {
        Transitry x = withWorlds(1);
        for (int paper = 0; paper < 30; paper++) {
            check.due("paper", x.paper(0, NONE), paper);
        }
        check.noState("a thirty-first", () -> x.paper(0, NONE));
        for (int paper = 0; paper < 30; paper++) {
            check.due("paper " + paper + " has fallen", x.hasFallen(paper), false);
        }
        check.noIndex("hasFallen", Check.beyond(0, 29), x::hasFallen);
    }

    @Holds(in = "Terms", says = "Papers are numbered from 0, at most 30;")
    static void fallenPapersKeepTheirNumbers(Check check) {
        Transitry x = withChain(5);
        check.due("all fall", x.withdraw(0), 5);
        for (int paper = 5; paper < 30; paper++) {
            check.due("paper", x.paper(1, NONE), paper);
        }
        check.noState("a thirty-first", () -> x.paper(1, NONE));
    }

    @Holds(in = "Terms", says = "a paper cites a world, and perhaps a paper that is there.")
    static void aPaperCitesNoPaperOrOneThatIsThere(Check check) {
        Transitry x = withWorlds(2);
        check.noIndex("there is none yet", () -> x.paper(0, 0));
        check.due("none", x.paper(0, NONE), 0);
        check.noIndex("itself", () -> x.paper(0, 1));
        check.due("the only one, on another world", x.paper(1, 0), 1);
        check.due("the last one", x.paper(0, 1), 2);
        check.due("the first one", x.paper(0, 0), 3);
        check.noIndex("one that comes later", () -> x.paper(0, 5));
    }

    @Holds(in = "Terms", says = "A world can be withdrawn, once;")
    static void aWorldCanBeWithdrawnOnce(Check check) {
        Transitry x = withWorlds(12);
        for (int w = 11; w >= 0; w--) {
            int world = w;
            check.due("not yet", x.about(world, 3), 0);
            check.due("withdraw " + world, x.withdraw(world), 0);
            check.due("withdrawn", x.about(world, 3), 1);
            check.noState("once more", () -> x.withdraw(world));
            check.due("withdrawn still", x.about(world, 3), 1);
        }
    }

    @Holds(in = "Terms", says = "a paper falls, if the world that it cites is withdrawn,")
    static void aPaperFallsWithItsWorld(Check check) {
        Transitry x = withWorlds(3);
        x.paper(0, NONE);
        x.paper(1, NONE);
        x.paper(0, NONE);
        check.due("no paper on world 2", x.withdraw(2), 0);
        dueFallen(check, x, false, false, false);
        check.due("two on world 0", x.withdraw(0), 2);
        dueFallen(check, x, true, false, true);
        check.due("one on world 1", x.withdraw(1), 1);
        dueFallen(check, x, true, true, true);
    }

    @Holds(in = "Terms", says = "or the paper that it cites has fallen,")
    static void aPaperFallsWithThePaperThatItCites(Check check) {
        Transitry x = withWorlds(2);
        x.paper(0, NONE);
        x.paper(1, 0);
        x.paper(1, NONE);
        check.due("a paper on world 0 and one that cites it", x.withdraw(0), 2);
        dueFallen(check, x, true, true, false);
        check.due("world 1 itself stands", x.about(1, 3), 0);
    }

    @Holds(in = "Terms", says = "or the paper that it cites has fallen,")
    static void allOfAChainOf30PapersFall(Check check) {
        Transitry x = withWorlds(2);
        x.paper(1, NONE);
        for (int paper = 1; paper < 30; paper++) {
            x.paper(0, paper - 1);
        }
        check.due("withdraw", x.withdraw(1), 30);
        for (int paper = 0; paper < 30; paper++) {
            check.due("paper " + paper, x.hasFallen(paper), true);
        }
        check.due("none is left to fall", x.withdraw(0), 0);
    }

    @Holds(in = "Terms", says = "or the paper that it cites has fallen,")
    static void aPaperDoesNotFallWithOneThatCitesIt(Check check) {
        Transitry x = withWorlds(2);
        x.paper(0, NONE);
        x.paper(1, 0);
        x.paper(0, 1);
        check.due("those from paper 1 on", x.withdraw(1), 2);
        dueFallen(check, x, false, true, true);
    }

    @Holds(in = "Terms", says = "whichever is told later;")
    static void aPaperFallsOnceByItsWorldOrByItsPaper(Check check) {
        Transitry x = withWorlds(3);
        x.paper(0, NONE);
        x.paper(1, 0);
        check.due("its paper's world first", x.withdraw(0), 2);
        check.due("its own world later", x.withdraw(1), 0);
        dueFallen(check, x, true, true);
        Transitry y = withWorlds(3);
        y.paper(0, NONE);
        y.paper(1, 0);
        check.due("its own world first", y.withdraw(1), 1);
        check.due("its paper's world later", y.withdraw(0), 1);
        dueFallen(check, y, true, true);
    }

    @Holds(in = "Terms", says = "whichever is told later;")
    static void aPaperThatIsWrittenLaterFallsWithAWorldOfBefore(Check check) {
        Transitry x = withWorlds(2);
        x.withdraw(1);
        check.due("written behind a withdrawal", x.paper(0, NONE), 0);
        check.due("cited behind it", x.paper(0, 0), 1);
        dueFallen(check, x, false, false);
        check.due("both fall", x.withdraw(0), 2);
        dueFallen(check, x, true, true);
        check.due("a world listed later", x.world(0, 0), 2);
        check.due("a paper on it", x.paper(2, NONE), 2);
        check.due("that one falls", x.withdraw(2), 1);
    }

    @Holds(in = "Terms", says = "no paper can cite what was withdrawn, or has fallen.")
    static void noPaperCitesAWithdrawnWorldOrAFallenPaper(Check check) {
        Transitry x = withWorlds(3);
        x.paper(0, NONE);
        x.paper(1, 0);
        x.paper(2, NONE);
        x.withdraw(0);
        check.noState("a withdrawn world", () -> x.paper(0, NONE));
        check.noState("a withdrawn world and a paper that stands", () -> x.paper(0, 2));
        check.noState("a paper that fell by its world", () -> x.paper(1, 0));
        check.noState("a paper that fell by its paper", () -> x.paper(1, 1));
        check.noState("both", () -> x.paper(0, 0));
        check.due("a world and a paper that stand", x.paper(1, 2), 3);
    }

    // ---- promise 15: world

    @Holds(in = "Promise 15", says = "Lists a world.")
    static void aWorldThatIsListedIsOfItsStar(Check check) {
        Transitry x = withNights();
        x.planet(1, 5, 2, 1, 200);
        x.observe(1, 0, 999);
        x.world(1, 0);
        x.world(0, 0);
        check.due("star of world 0", x.about(0, 0), 1);
        check.due("period of world 0", x.about(0, 1), x.period(1, 0));
        check.due("star of world 1", x.about(1, 0), 0);
        check.due("period of world 1", x.about(1, 1), 9);
        check.due("phase of world 1", x.about(1, 2), 4);
    }

    @Holds(in = "Promise 15", says = "- `threshold`: 0 to 1000000")
    static void worldTakesTheLeastAndTheGreatestThreshold(Check check) {
        Transitry x = new Transitry();
        x.star(1000000);
        x.planet(0, 2, 0, 1, 200);
        x.observe(0, 0, 999);
        check.due("the least", x.world(0, 0), 0);
        check.due("the greatest", x.world(0, 1000000), 1);
        check.due("its period", x.about(1, 1), 2);
        check.due("its period anew", x.periodAnew(1), 2);
    }

    @Holds(in = "Promise 15", says = "Returns its number.")
    static void worldAnswersRisingNumbersOverAllStars(Check check) {
        Transitry x = withNights();
        x.observe(2, 19, 99);
        for (int world = 0; world < 12; world++) {
            int star = world % 2 == 0 ? 0 : 2;
            check.due("a world of star " + star, x.world(star, 0), world);
            check.noArgument("one out of range takes no number", () -> x.world(0, -1));
        }
    }

    @Holds(in = "Promise 15", says = "Throws `IndexOutOfBoundsException` as told")
    static void worldRefusesNoStar(Check check) {
        Transitry x = withNights();
        check.noIndex("star", Check.beyond(0, 2), star -> x.world(star, 0));
        check.noIndex("nothing was listed", () -> x.about(0, 0));
    }

    @Holds(in = "Promise 15", says = "Throws `IllegalArgumentException` if threshold is out of range")
    static void worldRefusesAThresholdOutOfRange(Check check) {
        Transitry x = withNights();
        check.noArgument("threshold", Check.beyond(0, 1000000), threshold -> x.world(0, threshold));
        check.noIndex("nothing was listed", () -> x.about(0, 0));
    }

    @Holds(in = "Promise 15", says = "Throws `IllegalStateException` if the star has no period,")
    static void worldRefusesAStarWithoutPeriod(Check check) {
        Transitry x = new Transitry();
        x.star(1000);
        x.planet(0, 60, 39, 1, 200);
        check.noState("0 hours, by", new int[] {0, 1000000}, threshold -> x.world(0, threshold));
        x.observe(0, 21, 39);
        check.noState("19 hours, by", new int[] {0, 1000000}, threshold -> x.world(0, threshold));
        x.observe(0, 20, 20);
        check.noState("no score is greater, by", new int[] {190, 1000000}, threshold -> x.world(0, threshold));
        check.noIndex("nothing was listed", () -> x.about(0, 0));
        check.due("20 hours, by 189", x.world(0, 189), 0);
        check.due("the period", x.about(0, 1), 20);
    }

    @Holds(in = "Promise 15", says = "or there are 12")
    static void worldRefusesAThirteenth(Check check) {
        Transitry x = withWorlds(11);
        check.due("the twelfth", x.world(0, 0), 11);
        check.noState("a thirteenth", () -> x.world(0, 0));
        check.noState("a thirteenth of a star without period", () -> x.world(1, 0));
        check.noIndex("nothing was listed", () -> x.about(12, 0));
    }

    // ---- promise 16: about

    @Holds(in = "Promise 16", says = "Tells of a world.")
    static void aboutTellsOfTheWorldAsked(Check check) {
        Transitry x = withNights();
        x.observe(2, 0, 39);
        x.world(0, 0);
        x.world(2, 0);
        x.withdraw(1);
        int[][] told = {{0, 9, 4, 0}, {2, 9, 4, 1}};
        for (int world = 0; world < 2; world++) {
            for (int what = 0; what < 4; what++) {
                check.due("about " + world + ", what " + what, x.about(world, what), told[world][what]);
            }
        }
    }

    @Holds(in = "Promise 16", says = "- `what`: 0 its star, 1 its period, 2 its phase, 3 whether it is withdrawn (1"
            + " or 0)")
    static void aboutTakesTheLeastAndTheGreatestWhat(Check check) {
        Transitry x = new Transitry();
        for (int star = 0; star < 6; star++) {
            x.star(1000);
        }
        x.planet(5, 60, 59, 1, 200);
        x.observe(5, 0, 999);
        x.world(5, 0);
        check.due("0 its star", x.about(0, 0), 5);
        check.due("1 its period", x.about(0, 1), 60);
        check.due("2 its phase", x.about(0, 2), 59);
        check.due("3 not withdrawn", x.about(0, 3), 0);
        x.withdraw(0);
        check.due("3 withdrawn", x.about(0, 3), 1);
        check.due("the rest is as before", x.about(0, 1), 60);
    }

    @Holds(in = "Promise 16", says = "Throws `IndexOutOfBoundsException` as told")
    static void aboutRefusesNoWorld(Check check) {
        Transitry x = withWorlds(2);
        check.noIndex("world", Check.beyond(0, 1), world -> x.about(world, 0));
        Transitry full = withWorlds(12);
        check.noIndex("world", Check.beyond(0, 11), world -> full.about(world, 0));
        check.due("the last world", full.about(11, 1), 9);
    }

    @Holds(in = "Promise 16", says = "Throws `IllegalArgumentException` if what is out of range")
    static void aboutRefusesAWhatOutOfRange(Check check) {
        Transitry x = withWorlds(1);
        check.noArgument("what", Check.beyond(0, 3), what -> x.about(0, what));
        x.withdraw(0);
        check.noArgument("what of a withdrawn one", Check.beyond(0, 3), what -> x.about(0, what));
    }

    // ---- promise 17: periodAnew

    @Holds(in = "Promise 17", says = "Returns the period of a world, found once more from the light that had been"
            + " kept when it was listed.")
    static void periodAnewIsFromTheLightOfThatDay(Check check) {
        Transitry x = new Transitry();
        x.star(1000);
        x.planet(0, 60, 39, 1, 200);
        x.observe(0, 0, 39);
        x.world(0, 194);
        x.observe(0, 40, 999);
        x.world(0, 0);
        x.blend(0, 1000000);
        x.planet(0, 2, 0, 1, 200);
        x.cloud(0, 999);
        check.due("of 40 hours", x.periodAnew(0), 40);
        check.due("of all hours", x.periodAnew(1), 60);
        x.withdraw(0);
        check.due("of a withdrawn one", x.periodAnew(0), 40);
        check.due("once more", x.periodAnew(0), 40);
        check.due("the star's own", x.period(0, 0), 60);
    }

    @Holds(in = "Promise 17", says = "Returns the period of a world, found once more from the light that had been"
            + " kept when it was listed.")
    static void eachOf12WorldsHasTheLightOfItsDay(Check check) {
        Transitry x = new Transitry();
        x.star(1000);
        x.planet(0, 60, 39, 1, 200);
        // Hour 39 alone dips: the lowest period by which it is alone rises with the last hour that was kept.
        for (int world = 0; world < 12; world++) {
            x.observe(0, 0, 82 + world);
            check.due("world", x.world(0, 0), world);
        }
        for (int world = 0; world < 12; world++) {
            check.due("period of world " + world, x.about(world, 1), 44 + world);
            check.due("period anew of world " + world, x.periodAnew(world), 44 + world);
        }
    }

    @Holds(in = "Promise 17", says = "Throws `IndexOutOfBoundsException` as told")
    static void periodAnewRefusesNoWorld(Check check) {
        Transitry x = withWorlds(2);
        check.noIndex("world", Check.beyond(0, 1), x::periodAnew);
        Transitry full = withWorlds(12);
        check.noIndex("world", Check.beyond(0, 11), full::periodAnew);
        check.due("the last world", full.periodAnew(11), 9);
    }

    // ---- promise 18: paper

    @Holds(in = "Promise 18", says = "Writes a paper.")
    static void aPaperThatIsWrittenHasNotFallen(Check check) {
        Transitry x = withWorlds(1);
        check.noIndex("not written yet", () -> x.hasFallen(0));
        x.paper(0, NONE);
        check.due("written", x.hasFallen(0), false);
        check.due("falls with its world", x.withdraw(0), 1);
    }

    @Holds(in = "Promise 18", says = "- `cites`: a paper, or NONE")
    static void paperTakesNoneAndEachPaperThatIsThere(Check check) {
        Transitry x = withWorlds(2);
        for (int paper = 0; paper < 15; paper++) {
            check.due("cites NONE", x.paper(0, -1), paper);
        }
        for (int cites = 0; cites < 15; cites++) {
            check.due("cites paper " + cites, x.paper(1, cites), 15 + cites);
        }
        check.due("15 papers, and those that cite them", x.withdraw(0), 30);
    }

    @Holds(in = "Promise 18", says = "- `cites`: a paper, or NONE")
    static void paperTakesNoPaperThatIsNotThereYet(Check check) {
        Transitry x = withWorlds(2);
        for (int paper = 0; paper < 30; paper++) {
            int next = paper;
            check.noIndex("cites itself", () -> x.paper(1, next));
            check.noIndex("cites the one behind it", () -> x.paper(1, next + 1));
            check.due("cites the one ahead", x.paper(1, paper - 1), paper);
        }
    }

    @Holds(in = "Promise 18", says = "Returns its number.")
    static void paperAnswersRisingNumbersOverAllWorlds(Check check) {
        Transitry x = withWorlds(3);
        for (int paper = 0; paper < 30; paper++) {
            check.due("a paper on world " + paper % 3, x.paper(paper % 3, NONE), paper);
            check.noIndex("one on no world takes no number", () -> x.paper(3, NONE));
        }
    }

    @Holds(in = "Promise 18", says = "Throws `IndexOutOfBoundsException` as told, of the world or the paper")
    static void paperRefusesNoWorldAndNoPaper(Check check) {
        Transitry x = withWorlds(2);
        check.noIndex("world", Check.beyond(0, 1), world -> x.paper(world, NONE));
        check.noIndex("cites, none is there", new int[] {0, -2, 1, MIN, MAX}, cites -> x.paper(0, cites));
        x.paper(0, NONE);
        x.paper(0, NONE);
        // NONE is just below the least paper, so the refused ones begin below that.
        check.noIndex("cites", Check.beyond(NONE, 1), cites -> x.paper(0, cites));
        check.noIndex("world, with a paper that is there", Check.beyond(0, 1), world -> x.paper(world, 0));
        check.due("the next", x.paper(1, 1), 2);
    }

    @Holds(in = "Promise 18", says = "Throws `IllegalStateException` if the world is withdrawn,")
    static void paperRefusesAWithdrawnWorld(Check check) {
        Transitry x = withWorlds(2);
        x.withdraw(0);
        check.noState("on a withdrawn world", () -> x.paper(0, NONE));
        check.noIndex("none was written", () -> x.hasFallen(0));
        check.due("on the other one", x.paper(1, NONE), 0);
        check.noState("on a withdrawn world, with a paper", () -> x.paper(0, 0));
    }

    @Holds(in = "Promise 18", says = "the paper has fallen,")
    static void paperRefusesAFallenPaper(Check check) {
        Transitry x = withWorlds(2);
        x.paper(0, NONE);
        x.paper(1, NONE);
        x.withdraw(0);
        check.noState("cites a fallen paper", () -> x.paper(1, 0));
        check.noIndex("none was written", () -> x.hasFallen(2));
        check.due("cites the other one", x.paper(1, 1), 2);
    }

    @Holds(in = "Promise 18", says = "or there are 30")
    static void paperRefusesAThirtyFirst(Check check) {
        Transitry x = withChain(29);
        check.due("the thirtieth", x.paper(0, 28), 29);
        check.noState("a thirty-first", () -> x.paper(0, NONE));
        check.noState("a thirty-first that cites the last", () -> x.paper(1, 29));
        check.noIndex("none was written", () -> x.hasFallen(30));
        check.due("30 fall", x.withdraw(0), 30);
    }

    // ---- promise 19: withdraw

    @Holds(in = "Promise 19", says = "Withdraws a world.")
    static void withdrawWithdrawsThatWorldAlone(Check check) {
        Transitry x = withWorlds(3);
        x.withdraw(1);
        check.due("world 0", x.about(0, 3), 0);
        check.due("world 1", x.about(1, 3), 1);
        check.due("world 2", x.about(2, 3), 0);
    }

    @Holds(in = "Promise 19", says = "Returns how many papers fall by that.")
    static void withdrawAnswersHowManyFallByThatAlone(Check check) {
        check.due("there are no papers", withWorlds(1).withdraw(0), 0);
        check.due("one paper", withChain(1).withdraw(0), 1);
        check.due("30 papers", withChain(30).withdraw(0), 30);
        check.due("papers on another world", withChain(30).withdraw(1), 0);
        Transitry x = withWorlds(3);
        x.paper(0, NONE);
        x.paper(1, 0);
        x.paper(2, 1);
        x.paper(2, NONE);
        check.due("papers 1 and 2", x.withdraw(1), 2);
        check.due("paper 3; 2 has fallen already", x.withdraw(2), 1);
        check.due("paper 0; 1 has fallen already", x.withdraw(0), 1);
    }

    @Holds(in = "Promise 19", says = "Throws `IndexOutOfBoundsException` as told")
    static void withdrawRefusesNoWorld(Check check) {
        Transitry x = withWorlds(2);
        x.paper(0, NONE);
        check.noIndex("world", Check.beyond(0, 1), x::withdraw);
        Transitry full = withWorlds(12);
        check.noIndex("world", Check.beyond(0, 11), full::withdraw);
        check.due("the last world", full.withdraw(11), 0);
        check.due("nothing has fallen", x.hasFallen(0), false);
    }

    @Holds(in = "Promise 19", says = "Throws `IllegalStateException` if it is withdrawn")
    static void withdrawRefusesAWithdrawnWorld(Check check) {
        Transitry x = withChain(3);
        check.due("once", x.withdraw(0), 3);
        check.noState("twice", () -> x.withdraw(0));
        check.noState("three times", () -> x.withdraw(0));
        check.due("withdrawn", x.about(0, 3), 1);
        dueFallen(check, x, true, true, true);
    }

    // ---- promise 20: hasFallen

    @Holds(in = "Promise 20", says = "Returns whether a paper has fallen.")
    static void hasFallenTellsOfThePaperAsked(Check check) {
        Transitry x = withWorlds(2);
        for (int paper = 0; paper < 30; paper++) {
            x.paper(paper % 2, NONE);
        }
        x.withdraw(1);
        for (int paper = 0; paper < 30; paper++) {
            check.due("paper " + paper, x.hasFallen(paper), paper % 2 == 1);
            check.due("paper " + paper + " once more", x.hasFallen(paper), paper % 2 == 1);
        }
    }

    @Holds(in = "Promise 20", says = "Throws `IndexOutOfBoundsException` as told")
    static void hasFallenRefusesNoPaper(Check check) {
        Transitry x = withWorlds(1);
        check.noIndex("there is none", new int[] {0, -1, 1, MIN, MAX}, x::hasFallen);
        x.paper(0, NONE);
        check.noIndex("there is one", Check.beyond(0, 0), x::hasFallen);
        for (int paper = 1; paper < 30; paper++) {
            x.paper(0, NONE);
        }
        check.noIndex("there are 30", Check.beyond(0, 29), x::hasFallen);
        check.due("the last one", x.hasFallen(29), false);
    }
}
