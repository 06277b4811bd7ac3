import java.util.ArrayList;
import java.util.List;
import java.util.function.LongSupplier;

/** Objects with much in them, and all that they can be asked, so that any change shows. */
final class Scenes {
    private static final int[] HOURS = {0, 1, 19, 45, 59, 499, 500, 899, 900, 949, 998, 999};

    private Scenes() {
    }

    /**
     * Room for more of everything. Star 0 has a period, star 1 four planets and 19 hours, star 2 is steady,
     * star 3 has nothing; worlds 0 to 2, of which 2 is withdrawn, papers 0 to 3, of which 2 and 3 have fallen.
     */
    static Transitry roomy() {
        Transitry x = new Transitry();
        x.star(1000);
        x.star(5000);
        x.star(3000);
        x.star(2000);
        x.planet(0, 7, 3, 2, 100);
        addStarFullOfPlanets(x);
        x.cloud(900, 949);
        x.observe(0, 0, 199);
        x.observe(1, 0, 18);
        x.observe(2, 40, 139);
        addWorlds(x, 3);
        x.paper(0, Transitry.NONE);
        x.paper(1, 0);
        x.paper(2, Transitry.NONE);
        x.paper(1, 2);
        x.withdraw(2);
        return x;
    }

    /** No room for more stars, worlds and papers; stars 0 to 3 as in the other one. */
    static Transitry full() {
        Transitry x = new Transitry();
        x.star(1000);
        x.star(5000);
        x.star(3000);
        x.star(2000);
        x.star(1000000);
        x.star(4000);
        x.planet(0, 7, 3, 2, 100);
        addStarFullOfPlanets(x);
        x.observe(0, 0, 199);
        x.observe(1, 0, 18);
        x.observe(2, 40, 139);
        x.cloud(900, 949);
        addWorlds(x, 12);
        x.paper(0, Transitry.NONE);
        x.paper(1, 0);
        x.paper(2, Transitry.NONE);
        x.paper(1, 2);
        for (int paper = 4; paper < 30; paper++) {
            x.paper(paper % 2, paper % 3 == 0 ? Transitry.NONE : paper - 4);
        }
        x.withdraw(2);
        return x;
    }

    private static void addStarFullOfPlanets(Transitry x) {
        for (int planet = 1; planet <= 4; planet++) {
            x.planet(1, 10 * planet, planet, planet, 10 * planet);
        }
        x.spots(1, 8, 50);
        x.blend(1, 300);
    }

    private static void addWorlds(Transitry x, int worlds) {
        for (int world = 0; world < worlds; world++) {
            x.world(0, world);
        }
    }

    /** What the calls that only answer tell of such an object: less than 300 calls. */
    static List<String> told(Transitry x) {
        List<String> told = new ArrayList<>();
        for (int s = 0; s < 6; s++) {
            int star = s;
            for (int hour : HOURS) {
                told.add(answer("light", () -> x.light(star, hour)));
                told.add(answer("kept", () -> x.kept(star, hour)));
            }
            told.add(answer("score", () -> x.score(star, 7)));
            told.add(answer("phase", () -> x.phase(star, 60)));
            told.add(answer("period", () -> x.period(star, 0)));
            told.add(answer("whyNot", () -> x.whyNot(star, 0)));
            told.add(answer("oddEven", () -> x.oddEven(star, 14)));
        }
        for (int w = 0; w < 13; w++) {
            int world = w;
            for (int what = 0; what < 4; what++) {
                int each = what;
                told.add(answer("about", () -> x.about(world, each)));
            }
            told.add(answer("periodAnew", () -> x.periodAnew(world)));
        }
        for (int p = 0; p < 31; p++) {
            int paper = p;
            told.add(answer("hasFallen", () -> x.hasFallen(paper) ? 1 : 0));
        }
        return told;
    }

    /** What the calls that change something answer then: less than 60 calls. */
    static List<String> toldByChanges(Transitry x) {
        List<String> told = new ArrayList<>();
        told.add(answer("cloud", () -> x.cloud(900, 900)));
        told.add(answer("star", () -> x.star(1000)));
        for (int s = 0; s < 6; s++) {
            int star = s;
            told.add(answer("spots", () -> x.spots(star, 60, 1)));
            told.add(answer("blend", () -> x.blend(star, 2)));
            told.add(answer("planet", () -> x.planet(star, 60, 0, 1, 1)));
            told.add(answer("observe", () -> x.observe(star, 0, 999)));
        }
        told.add(answer("world", () -> x.world(0, 0)));
        told.add(answer("paper", () -> x.paper(0, Transitry.NONE)));
        for (int w = 0; w < 13; w++) {
            int world = w;
            told.add(answer("withdraw", () -> x.withdraw(world)));
        }
        return told;
    }

    private static String answer(String call, LongSupplier run) {
        try {
            return call + " answers " + run.getAsLong();
        } catch (RuntimeException e) {
            return call + " throws " + e.getClass().getSimpleName();
        }
    }
}
