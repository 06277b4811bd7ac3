import java.util.ArrayList;
import java.util.List;
import java.util.SortedMap;
import java.util.TreeMap;
import java.util.TreeSet;

/** The document once more, by maps and lists, to compare Transitry with. Doubles are told by their bits. */
final class Model {
    private static final class Sun {
        int light;
        final List<int[]> planets = new ArrayList<>();
        int spin = 0;
        int spotDepth = 0;
        int blend = 0;
        final TreeMap<Integer, Double> kept = new TreeMap<>();
    }

    private record Listed(int star, int period, int phase, TreeMap<Integer, Double> kept) {
    }

    private record Written(int world, int cites) {
    }

    private final List<Sun> suns = new ArrayList<>();
    private final TreeSet<Integer> hidden = new TreeSet<>();
    private final List<Listed> worlds = new ArrayList<>();
    private final TreeSet<Integer> withdrawn = new TreeSet<>();
    private final List<Written> papers = new ArrayList<>();

    private static void index(boolean there) {
        if (!there) {
            throw new IndexOutOfBoundsException();
        }
    }

    private static void argument(boolean inRange) {
        if (!inRange) {
            throw new IllegalArgumentException();
        }
    }

    private static void state(boolean right) {
        if (!right) {
            throw new IllegalStateException();
        }
    }

    private static boolean isIn(int value, int least, int most) {
        return least <= value && value <= most;
    }

    private Sun sun(int star) {
        index(isIn(star, 0, suns.size() - 1));
        return suns.get(star);
    }

    private static void hours(int... hours) {
        for (int hour : hours) {
            index(isIn(hour, 0, 999));
        }
    }

    long star(int light) {
        argument(isIn(light, 1000, 1000000));
        state(suns.size() < 6);
        Sun sun = new Sun();
        sun.light = light;
        suns.add(sun);
        return suns.size() - 1;
    }

    long planet(int star, int period, int phase, int length, int depth) {
        Sun sun = sun(star);
        argument(isIn(period, 2, 60));
        argument(isIn(phase, 0, period - 1));
        argument(isIn(length, 1, 4) && length < period);
        argument(isIn(depth, 1, 200));
        state(sun.planets.size() < 4);
        sun.planets.add(new int[] {period, phase, length, depth});
        return sun.planets.size();
    }

    long spots(int star, int spin, int depth) {
        Sun sun = sun(star);
        argument(isIn(spin, 4, 60) && isIn(depth, 0, 100));
        long before = sun.spotDepth;
        sun.spin = spin;
        sun.spotDepth = depth;
        return before;
    }

    long blend(int star, int light) {
        Sun sun = sun(star);
        argument(isIn(light, 0, 1000000));
        long before = sun.blend;
        sun.blend = light;
        return before;
    }

    private static double lightIn(Sun sun, int hour) {
        double light = sun.light;
        for (int[] planet : sun.planets) {
            int since = (hour - planet[1]) % planet[0];
            if (since < 0) {
                since += planet[0];
            }
            if (since < planet[2]) {
                light *= (1000 - planet[3]) / 1000.0;
            }
        }
        if (sun.spin != 0 && hour % sun.spin < sun.spin / 4) {
            light *= (1000 - sun.spotDepth) / 1000.0;
        }
        return light + sun.blend;
    }

    long light(int star, int hour) {
        Sun sun = sun(star);
        hours(hour);
        return Double.doubleToLongBits(lightIn(sun, hour));
    }

    long cloud(int from, int to) {
        hours(from, to);
        argument(from <= to);
        for (int hour = from; hour <= to; hour++) {
            hidden.add(hour);
        }
        return hidden.size();
    }

    long observe(int star, int from, int to) {
        Sun sun = sun(star);
        hours(from, to);
        argument(from <= to);
        int before = sun.kept.size();
        for (int hour = from; hour <= to; hour++) {
            if (!hidden.contains(hour)) {
                sun.kept.putIfAbsent(hour, lightIn(sun, hour));
            }
        }
        return sun.kept.size() - before;
    }

    long kept(int star, int hour) {
        Sun sun = sun(star);
        hours(hour);
        Double kept = sun.kept.get(hour);
        return kept == null ? -1 : Double.doubleToLongBits(kept);
    }

    private static double mean(Iterable<Double> lights) {
        double sum = 0.0;
        int count = 0;
        for (double light : lights) {
            sum += light;
            count++;
        }
        return sum / count;
    }

    /** Folds that have hours, with their light by rising hours. */
    private static SortedMap<Integer, List<Double>> folds(SortedMap<Integer, Double> kept, int period) {
        SortedMap<Integer, List<Double>> folds = new TreeMap<>();
        kept.forEach((hour, light) -> folds.computeIfAbsent(hour % period, f -> new ArrayList<>()).add(light));
        return folds;
    }

    private static TreeMap<Integer, Double> scores(SortedMap<Integer, Double> kept, int period) {
        double all = mean(kept.values());
        TreeMap<Integer, Double> scores = new TreeMap<>();
        folds(kept, period).forEach((fold, lights) -> scores.put(fold, (all - mean(lights)) * lights.size()));
        return scores;
    }

    private static double scoreOf(SortedMap<Integer, Double> kept, int period) {
        double greatest = Double.NEGATIVE_INFINITY;
        for (double score : scores(kept, period).values()) {
            greatest = score > greatest ? score : greatest;
        }
        return greatest;
    }

    private static int phaseOf(SortedMap<Integer, Double> kept, int period) {
        double greatest = scoreOf(kept, period);
        for (var each : scores(kept, period).entrySet()) {
            if (each.getValue() == greatest) {
                return each.getKey();
            }
        }
        throw new IllegalStateException("no fold");
    }

    /** The period, or -1 and -2 for the reasons why there is none. */
    private static int periodOf(SortedMap<Integer, Double> kept, int threshold) {
        if (kept.size() < 20) {
            return -1;
        }
        double[] scores = new double[61];
        int best = 2;
        for (int period = 2; period <= 60; period++) {
            scores[period] = scoreOf(kept, period);
            best = scores[period] > scores[best] ? period : best;
        }
        return scores[best] > threshold ? best : -2;
    }

    private Sun enough(int star, int period) {
        Sun sun = sun(star);
        argument(isIn(period, 2, 60));
        state(sun.kept.size() >= 20);
        return sun;
    }

    long score(int star, int period) {
        return Double.doubleToLongBits(scoreOf(enough(star, period).kept, period));
    }

    long phase(int star, int period) {
        return phaseOf(enough(star, period).kept, period);
    }

    long period(int star, int threshold) {
        Sun sun = sun(star);
        argument(isIn(threshold, 0, 1000000));
        int period = periodOf(sun.kept, threshold);
        state(period > 0);
        return period;
    }

    long whyNot(int star, int threshold) {
        Sun sun = sun(star);
        argument(isIn(threshold, 0, 1000000));
        int period = periodOf(sun.kept, threshold);
        return period > 0 ? 0 : -period;
    }

    long oddEven(int star, int period) {
        Sun sun = enough(star, period);
        int phase = phaseOf(sun.kept, period);
        SortedMap<Integer, List<Double>> folds = folds(sun.kept, 2 * period);
        List<Double> odd = folds.get(phase);
        List<Double> even = folds.get(phase + period);
        return Double.doubleToLongBits(odd == null || even == null ? 0.0 : mean(odd) - mean(even));
    }

    long world(int star, int threshold) {
        int period = (int) period(star, threshold);
        state(worlds.size() < 12);
        Sun sun = sun(star);
        worlds.add(new Listed(star, period, phaseOf(sun.kept, period), new TreeMap<>(sun.kept)));
        return worlds.size() - 1;
    }

    long about(int world, int what) {
        index(isIn(world, 0, worlds.size() - 1));
        argument(isIn(what, 0, 3));
        Listed listed = worlds.get(world);
        int[] told = {listed.star, listed.period, listed.phase, withdrawn.contains(world) ? 1 : 0};
        return told[what];
    }

    long periodAnew(int world) {
        index(isIn(world, 0, worlds.size() - 1));
        return periodOf(worlds.get(world).kept, 0);
    }

    private boolean falls(int paper) {
        Written written = papers.get(paper);
        return withdrawn.contains(written.world) || (written.cites != -1 && falls(written.cites));
    }

    private int fallen() {
        int fallen = 0;
        for (int paper = 0; paper < papers.size(); paper++) {
            fallen += falls(paper) ? 1 : 0;
        }
        return fallen;
    }

    long paper(int world, int cites) {
        index(isIn(world, 0, worlds.size() - 1));
        index(isIn(cites, -1, papers.size() - 1));
        state(!withdrawn.contains(world) && (cites == -1 || !falls(cites)) && papers.size() < 30);
        papers.add(new Written(world, cites));
        return papers.size() - 1;
    }

    long withdraw(int world) {
        index(isIn(world, 0, worlds.size() - 1));
        state(!withdrawn.contains(world));
        int before = fallen();
        withdrawn.add(world);
        return fallen() - before;
    }

    long hasFallen(int paper) {
        index(isIn(paper, 0, papers.size() - 1));
        return falls(paper) ? 1 : 0;
    }
}
