/** Promises 15 to 20: world, about, periodAnew, paper, withdraw, hasFallen. */
public final class WorldsTest {
    private static final int[] NO_NUMBERS = {-1, 30, 1000, Integer.MIN_VALUE, Integer.MAX_VALUE};
    private static final Check check = new Check();

    public static void main(String[] args) {
        world();
        worldThrows();
        mostWorlds();
        about();
        periodAnew();
        paper();
        paperThrows();
        mostPapers();
        withdrawLetsAllFall();
        withdrawOneOfTwo();
        withdrawThrows();
        check.end();
    }

    /** Star 0 is steady, star 1 dips each 9 hours from hour 4 on. */
    private static Transitry withNights() {
        Transitry x = new Transitry();
        x.star(1000);
        x.star(1000);
        x.planet(1, 9, 4, 2, 100);
        x.observe(0, 0, 199);
        x.observe(1, 0, 199);
        return x;
    }

    private static Transitry withWorlds(int worlds) {
        Transitry x = withNights();
        for (int i = 0; i < worlds; i++) {
            x.world(1, 0);
        }
        return x;
    }

    private static void world() {
        Transitry x = withNights();
        check.due("first world", x.world(1, 0), 0);
        check.due("the same once more", x.world(1, 1), 1);
        check.due("its star", x.about(0, 0), 1);
        check.due("its period", x.about(0, 1), 9);
        check.due("its phase", x.about(0, 2), 4);
        check.due("not withdrawn", x.about(0, 3), 0);
        check.due("its period is that of the star", x.period(1, 0), 9);

        // By 60, the last period that is looked at, the phase would be another one.
        Transitry y = new Transitry();
        y.star(1000);
        y.planet(0, 7, 3, 1, 100);
        y.observe(0, 100, 299);
        check.due("phase by 60", y.phase(0, 60) != 3, true);
        y.world(0, 0);
        check.due("period", y.about(0, 1), 7);
        check.due("phase by the period", y.about(0, 2), 3);
    }

    private static void worldThrows() {
        Transitry x = withNights();
        for (int star : new int[] {-1, 2, 6, Integer.MIN_VALUE, Integer.MAX_VALUE}) {
            check.noIndex("world of star " + star, () -> x.world(star, 0));
            check.noIndex("world of star " + star + " by -1", () -> x.world(star, -1));
        }
        for (int threshold : new int[] {-1, 1000001, Integer.MIN_VALUE, Integer.MAX_VALUE}) {
            check.noArgument("world by " + threshold, () -> x.world(1, threshold));
            check.noArgument("world of a steady star by " + threshold, () -> x.world(0, threshold));
        }
        check.noState("a steady star", () -> x.world(0, 0));
        check.noState("no score is greater", () -> x.world(1, 1000000));
        x.star(1000);
        x.planet(2, 2, 0, 1, 100);
        x.observe(2, 0, 18);
        check.noState("too few hours", () -> x.world(2, 0));
        check.noIndex("a call that throws listed nothing", () -> x.about(0, 0));
        x.observe(2, 19, 19);
        check.due("20 hours", x.world(2, 0), 0);
    }

    private static void mostWorlds() {
        Transitry x = withNights();
        for (int i = 0; i < 12; i++) {
            check.due("world number", x.world(1, 0), i);
        }
        check.noState("a thirteenth world", () -> x.world(1, 0));
        check.noArgument("a thirteenth world by -1", () -> x.world(1, -1));
        check.noIndex("a thirteenth world of no star", () -> x.world(2, 0));
        check.noIndex("none was listed", () -> x.about(12, 0));
        check.due("the last one", x.about(11, 1), 9);
        x.withdraw(0);
        check.noState("withdrawn worlds count", () -> x.world(1, 0));
    }

    private static void about() {
        Transitry x = withWorlds(2);
        for (int world : new int[] {-1, 2, 12, Integer.MIN_VALUE, Integer.MAX_VALUE}) {
            check.noIndex("about " + world, () -> x.about(world, 0));
            check.noIndex("about " + world + ", what 4", () -> x.about(world, 4));
        }
        for (int what : new int[] {-1, 4, Integer.MIN_VALUE, Integer.MAX_VALUE}) {
            check.noArgument("about 0, what " + what, () -> x.about(0, what));
        }
        x.withdraw(1);
        check.due("not withdrawn", x.about(0, 3), 0);
        check.due("withdrawn", x.about(1, 3), 1);
        check.due("star of a withdrawn one", x.about(1, 0), 1);
        check.due("period of a withdrawn one", x.about(1, 1), 9);
        check.due("phase of a withdrawn one", x.about(1, 2), 4);
    }

    private static void periodAnew() {
        Transitry x = new Transitry();
        x.star(1000);
        x.planet(0, 60, 39, 1, 200);
        x.observe(0, 0, 39);
        // So few hours tell no more of the period than that it is at least 40.
        check.due("a first world", x.world(0, 100), 0);
        x.observe(0, 40, 999);
        check.due("the period by now", x.period(0, 100), 60);
        check.due("a second world", x.world(0, 100), 1);
        check.due("the first as it was listed", x.about(0, 1), 40);
        check.due("its phase as it was listed", x.about(0, 2), 39);
        check.due("the first anew", x.periodAnew(0), 40);
        check.due("the second anew", x.periodAnew(1), 60);
        check.due("the search left the star alone", x.period(0, 100), 60);
        x.planet(0, 2, 0, 1, 200);
        x.blend(0, 1000000);
        x.cloud(0, 999);
        x.withdraw(0);
        check.due("the first anew, withdrawn", x.periodAnew(0), 40);
        check.due("the second anew, behind clouds", x.periodAnew(1), 60);
        for (int world : new int[] {-1, 2, 12, Integer.MIN_VALUE, Integer.MAX_VALUE}) {
            check.noIndex("periodAnew of " + world, () -> x.periodAnew(world));
        }
    }

    private static void paper() {
        Transitry x = withWorlds(2);
        check.due("a paper that cites no paper", x.paper(0, Transitry.NONE), 0);
        check.due("a paper that cites it", x.paper(1, 0), 1);
        check.due("a paper that cites the last", x.paper(0, 1), 2);
        check.due("a paper that cites an early one", x.paper(0, 0), 3);
        for (int paper = 0; paper < 4; paper++) {
            check.due("has not fallen", x.hasFallen(paper), false);
        }
        for (int number : NO_NUMBERS) {
            check.noIndex("hasFallen of " + number, () -> x.hasFallen(number));
        }
        check.noIndex("hasFallen of the next", () -> x.hasFallen(4));
    }

    private static void paperThrows() {
        Transitry x = withWorlds(2);
        x.paper(0, Transitry.NONE);
        for (int number : NO_NUMBERS) {
            check.noIndex("paper on world " + number, () -> x.paper(number, Transitry.NONE));
        }
        for (int cites : new int[] {-2, 1, 30, Integer.MIN_VALUE, Integer.MAX_VALUE}) {
            check.noIndex("paper that cites " + cites, () -> x.paper(0, cites));
        }
        check.noIndex("no paper cites itself", () -> x.paper(0, 1));
        x.withdraw(0);
        check.noState("a withdrawn world", () -> x.paper(0, Transitry.NONE));
        check.noState("a fallen paper", () -> x.paper(1, 0));
        check.noState("both", () -> x.paper(0, 0));
        check.noIndex("no such paper before a withdrawn world", () -> x.paper(0, 1));
        check.noIndex("no such world before a fallen paper", () -> x.paper(2, 0));
        check.due("a call that throws wrote nothing", x.paper(1, Transitry.NONE), 1);
        check.due("on the world that is left", x.paper(1, 1), 2);
    }

    private static void mostPapers() {
        Transitry x = withWorlds(2);
        for (int i = 0; i < 30; i++) {
            check.due("paper number", x.paper(0, i - 1), i);
        }
        check.noState("a paper too many", () -> x.paper(0, 29));
        check.noState("a paper too many that cites none", () -> x.paper(1, Transitry.NONE));
        check.noIndex("a paper too many on no world", () -> x.paper(2, 0));
        check.noIndex("a paper too many that cites itself", () -> x.paper(0, 30));
        check.noIndex("none was written", () -> x.hasFallen(30));
        check.due("withdrawn with all that hangs on it", x.withdraw(0), 30);
        check.due("the last has fallen", x.hasFallen(29), true);
        check.noState("fallen papers count", () -> x.paper(1, Transitry.NONE));
    }

    private static void withdrawLetsAllFall() {
        Transitry x = withWorlds(3);
        x.paper(1, Transitry.NONE);
        x.paper(0, 0);
        x.paper(2, 1);
        x.paper(0, Transitry.NONE);
        x.paper(2, 3);
        check.due("a world without papers falls alone", withWorlds(1).withdraw(0), 0);
        check.due("a chain falls", x.withdraw(1), 3);
        boolean[] fallen = {true, true, true, false, false};
        for (int paper = 0; paper < 5; paper++) {
            check.due("hasFallen " + paper, x.hasFallen(paper), fallen[paper]);
        }
        check.due("only what had not fallen counts", x.withdraw(0), 2);
        check.due("hasFallen 3", x.hasFallen(3), true);
        check.due("hasFallen 4", x.hasFallen(4), true);
        check.due("all had fallen", x.withdraw(2), 0);
    }

    private static void withdrawOneOfTwo() {
        Transitry x = withWorlds(2);
        x.paper(0, Transitry.NONE);
        x.paper(1, 0);
        check.due("only the paper on it", x.withdraw(1), 1);
        check.due("what is cited does not fall", x.hasFallen(0), false);
        check.due("what cites has fallen by its world", x.hasFallen(1), true);
        check.due("the other world is not withdrawn", x.about(0, 3), 0);
        check.due("a paper on the other world", x.paper(0, 0), 2);
        check.due("falls once, whichever is told later", x.withdraw(0), 2);
    }

    private static void withdrawThrows() {
        Transitry x = withWorlds(2);
        x.paper(0, Transitry.NONE);
        for (int world : new int[] {-1, 2, 12, Integer.MIN_VALUE, Integer.MAX_VALUE}) {
            check.noIndex("withdraw " + world, () -> x.withdraw(world));
        }
        check.due("withdraw", x.withdraw(0), 1);
        check.noState("withdraw once more", () -> x.withdraw(0));
        check.due("it stays withdrawn", x.about(0, 3), 1);
        check.due("the paper stays fallen", x.hasFallen(0), true);
        check.due("the other is not withdrawn", x.withdraw(1), 0);
    }
}
