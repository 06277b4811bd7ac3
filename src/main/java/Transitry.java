import java.util.ArrayList;
import java.util.Arrays;

/** Worlds of other suns, as ../shared/DOC.md promises them. */
public final class Transitry {
    public static final int NONE = -1;

    private static final int HOURS = 1000;
    private static final int MOST_STARS = 6;
    private static final int MOST_PLANETS = 4;
    private static final int MOST_WORLDS = 12;
    private static final int MOST_PAPERS = 30;
    private static final int LEAST_LIGHT = 1000;
    private static final int MOST_LIGHT = 1000000;
    private static final int LEAST_PERIOD = 2;
    private static final int MOST_PERIOD = 60;
    private static final int LEAST_SPIN = 4;
    private static final int MOST_SPIN = 60;
    private static final int MOST_THRESHOLD = 1000000;
    private static final int LEAST_KEPT = 20;
    private static final int TOO_FEW_HOURS = 1;
    private static final int NO_GREATER_SCORE = 2;

    private final ArrayList<Star> stars = new ArrayList<Star>();
    private final ArrayList<World> worlds = new ArrayList<World>();
    private final ArrayList<Paper> papers = new ArrayList<Paper>();
    private final boolean[] hidden = new boolean[HOURS];
    private int hiddenCount = 0;
    // One folding serves all calls, so that no call makes rows of its own.
    private final Folding folding = new Folding();

    public Transitry() {
    }

    // ---- stars

    public int star(int light) throws IllegalArgumentException, IllegalStateException {
        requireRange(light, LEAST_LIGHT, MOST_LIGHT);
        if (stars.size() >= MOST_STARS) {
            throw new IllegalStateException("there are as many stars as there can be");
        }
        stars.add(new Star(light));
        return stars.size() - 1;
    }

    public int planet(int star, int period, int phase, int length, int depth)
            throws IndexOutOfBoundsException, IllegalArgumentException, IllegalStateException {
        Star sun = starAt(star);
        requireRange(period, LEAST_PERIOD, MOST_PERIOD);
        requireRange(phase, 0, period - 1);
        requireRange(length, 1, Math.min(4, period - 1));
        requireRange(depth, 1, 200);
        if (sun.planets.size() >= MOST_PLANETS) {
            throw new IllegalStateException("the star has as many planets as it can have");
        }
        sun.planets.add(new Planet(period, phase, length, depth));
        return sun.planets.size();
    }

    public int spots(int star, int spin, int depth) throws IndexOutOfBoundsException, IllegalArgumentException {
        Star sun = starAt(star);
        requireRange(spin, LEAST_SPIN, MOST_SPIN);
        requireRange(depth, 0, 100);
        int before = sun.spotDepth;
        sun.spin = spin;
        sun.spotDepth = depth;
        return before;
    }

    public int blend(int star, int light) throws IndexOutOfBoundsException, IllegalArgumentException {
        Star sun = starAt(star);
        requireRange(light, 0, MOST_LIGHT);
        int before = sun.blend;
        sun.blend = light;
        return before;
    }

    public long light(int star, int hour) throws IndexOutOfBoundsException {
        Star sun = starAt(star);
        requireHour(hour);
        return bitsOf(sun.lightIn(hour));
    }

    // ---- nights

    public int cloud(int from, int to) throws IndexOutOfBoundsException, IllegalArgumentException {
        requireHours(from, to);
        for (int hour = from; hour <= to; hour++) {
            if (!isHidden(hour)) {
                hide(hour);
            }
        }
        return hiddenCount;
    }

    public int observe(int star, int from, int to) throws IndexOutOfBoundsException, IllegalArgumentException {
        Star sun = starAt(star);
        requireHours(from, to);
        int before = sun.nights.keptCount;
        for (int hour = from; hour <= to; hour++) {
            if (!isHidden(hour) && !sun.nights.hasLight(hour)) {
                sun.nights.keep(hour, sun.lightIn(hour));
            }
        }
        return sun.nights.keptCount - before;
    }

    public long kept(int star, int hour) throws IndexOutOfBoundsException {
        Star sun = starAt(star);
        requireHour(hour);
        return sun.nights.hasLight(hour) ? bitsOf(sun.nights.lightOf(hour)) : NONE;
    }

    public long score(int star, int period)
            throws IndexOutOfBoundsException, IllegalArgumentException, IllegalStateException {
        folding.foldBy(period, nightsToFold(star, period));
        return bitsOf(folding.scoreOf(folding.bestFold()));
    }

    public int phase(int star, int period)
            throws IndexOutOfBoundsException, IllegalArgumentException, IllegalStateException {
        folding.foldBy(period, nightsToFold(star, period));
        return folding.bestFold();
    }

    public int period(int star, int threshold)
            throws IndexOutOfBoundsException, IllegalArgumentException, IllegalStateException {
        return periodToTell(nightsToSearch(star, threshold), threshold);
    }

    public int whyNot(int star, int threshold) throws IndexOutOfBoundsException, IllegalArgumentException {
        Nights nights = nightsToSearch(star, threshold);
        if (nights.keptCount < LEAST_KEPT) {
            return TOO_FEW_HOURS;
        }
        return bestPeriod(nights, threshold) == NONE ? NO_GREATER_SCORE : 0;
    }

    public long oddEven(int star, int period)
            throws IndexOutOfBoundsException, IllegalArgumentException, IllegalStateException {
        Nights nights = nightsToFold(star, period);
        folding.foldBy(period, nights);
        int odd = folding.bestFold();
        int even = odd + period;
        folding.foldBy(2 * period, nights);
        if (!folding.hasHours(odd) || !folding.hasHours(even)) {
            return bitsOf(0.0);
        }
        return bitsOf(folding.meanOf(odd) - folding.meanOf(even));
    }

    // ---- worlds, papers

    public int world(int star, int threshold)
            throws IndexOutOfBoundsException, IllegalArgumentException, IllegalStateException {
        Nights nights = nightsToSearch(star, threshold);
        int period = periodToTell(nights, threshold);
        if (worlds.size() >= MOST_WORLDS) {
            throw new IllegalStateException("there are as many worlds as there can be");
        }
        folding.foldBy(period, nights);
        worlds.add(new World(star, threshold, period, folding.bestFold(), new Nights(nights)));
        return worlds.size() - 1;
    }

    public int about(int world, int what) throws IndexOutOfBoundsException, IllegalArgumentException {
        World listed = worldAt(world);
        requireRange(what, 0, 3);
        switch (what) {
            case 0:
                return listed.star;
            case 1:
                return listed.period;
            case 2:
                return listed.phase;
            default:
                return listed.isWithdrawn ? 1 : 0;
        }
    }

    public int periodAnew(int world) throws IndexOutOfBoundsException {
        World listed = worldAt(world);
        return bestPeriod(listed.nights, listed.threshold);
    }

    public int paper(int world, int cites) throws IndexOutOfBoundsException, IllegalStateException {
        World subject = worldAt(world);
        Paper cited = cites == NONE ? null : paperAt(cites);
        Paper written = new Paper(subject, cited);
        if (written.mustFall()) {
            throw new IllegalStateException("a paper cannot cite what was withdrawn or has fallen");
        }
        if (papers.size() >= MOST_PAPERS) {
            throw new IllegalStateException("there are as many papers as there can be");
        }
        papers.add(written);
        return papers.size() - 1;
    }

    public int withdraw(int world) throws IndexOutOfBoundsException, IllegalStateException {
        World listed = worldAt(world);
        if (listed.isWithdrawn) {
            throw new IllegalStateException("the world is withdrawn");
        }
        listed.isWithdrawn = true;
        return letPapersFall();
    }

    public boolean hasFallen(int paper) throws IndexOutOfBoundsException {
        return paperAt(paper).isFallen;
    }

    // ---- what there is, and what is in range

    private Star starAt(int star) {
        if (star < 0 || star >= stars.size()) {
            throw new IndexOutOfBoundsException("there is no such star");
        }
        return stars.get(star);
    }

    private World worldAt(int world) {
        if (world < 0 || world >= worlds.size()) {
            throw new IndexOutOfBoundsException("there is no such world");
        }
        return worlds.get(world);
    }

    private Paper paperAt(int paper) {
        if (paper < 0 || paper >= papers.size()) {
            throw new IndexOutOfBoundsException("there is no such paper");
        }
        return papers.get(paper);
    }

    private static void requireHour(int hour) {
        if (hour < 0 || hour >= HOURS) {
            throw new IndexOutOfBoundsException("there is no such hour");
        }
    }

    private static void requireHours(int from, int to) {
        requireHour(from);
        requireHour(to);
        if (to < from) {
            throw new IllegalArgumentException("the last hour is before the first");
        }
    }

    private static void requireRange(int value, int least, int most) {
        if (value < least || value > most) {
            throw new IllegalArgumentException("an argument is out of its range");
        }
    }

    private Nights nightsToFold(int star, int period) {
        Nights nights = starAt(star).nights;
        requireRange(period, LEAST_PERIOD, MOST_PERIOD);
        if (nights.keptCount < LEAST_KEPT) {
            throw new IllegalStateException("too few hours were kept");
        }
        return nights;
    }

    private Nights nightsToSearch(int star, int threshold) {
        Nights nights = starAt(star).nights;
        requireRange(threshold, 0, MOST_THRESHOLD);
        return nights;
    }

    // ---- clouds

    private boolean isHidden(int hour) {
        return hour >= 0 && hour < hidden.length && hidden[hour];
    }

    private void hide(int hour) {
        if (hour >= 0 && hour < hidden.length) {
            hidden[hour] = true;
            hiddenCount++;
        }
    }

    // ---- periods

    private int periodToTell(Nights nights, int threshold) {
        int found = bestPeriod(nights, threshold);
        if (found == NONE) {
            throw new IllegalStateException("the star has no period");
        }
        return found;
    }

    private int bestPeriod(Nights nights, int threshold) {
        int best = NONE;
        if (nights.keptCount < LEAST_KEPT) {
            return best;
        }
        // Only a greater score wins, so of alike ones the lowest period stays.
        double greatest = threshold;
        for (int period = LEAST_PERIOD; period <= MOST_PERIOD; period++) {
            folding.foldBy(period, nights);
            double reached = folding.scoreOf(folding.bestFold());
            if (reached > greatest) {
                greatest = reached;
                best = period;
            }
        }
        return best;
    }

    // ---- papers

    private int letPapersFall() {
        int fallen = 0;
        // A paper cites only what was there before it, so one pass by rising numbers reaches all.
        for (int i = 0; i < papers.size(); i++) {
            Paper next = papers.get(i);
            if (!next.isFallen && next.mustFall()) {
                next.isFallen = true;
                fallen++;
            }
        }
        return fallen;
    }

    // ---- doubles

    /**
     * The bits of a double, found by arithmetic, because the rules leave no Double.doubleToLongBits.
     * Light, means and their differences are 0.0 or far above the doubles that have fewer bits.
     */
    private static long bitsOf(double value) {
        if (value == 0.0) {
            return 0L;
        }
        long sign = value < 0.0 ? Long.MIN_VALUE : 0L;
        double rest = value < 0.0 ? -value : value;
        long exponent = 1023L;
        for (int i = 0; i < 1023 && rest >= 2.0; i++) {
            rest = rest / 2.0;
            exponent++;
        }
        for (int i = 0; i < 1022 && rest < 1.0; i++) {
            rest = rest * 2.0;
            exponent--;
        }
        long fraction = (long) ((rest - 1.0) * (1L << 52));
        return sign | (exponent << 52) | fraction;
    }

    private static final class Planet {
        private final int period;
        private final int phase;
        private final int length;
        private final double quotient;

        Planet(int period, int phase, int length, int depth) {
            this.period = period;
            this.phase = phase;
            this.length = length;
            this.quotient = (1000 - depth) / 1000.0;
        }

        boolean dipsIn(int hour) {
            return period > 0 && Math.floorMod(hour - phase, period) < length;
        }
    }

    private static final class Star {
        private final int ownLight;
        private final ArrayList<Planet> planets = new ArrayList<Planet>();
        // 0 as long as there are no spots.
        private int spin = 0;
        private int spotDepth = 0;
        private int blend = 0;
        private final Nights nights = new Nights();

        Star(int ownLight) {
            this.ownLight = ownLight;
        }

        double lightIn(int hour) {
            double sum = ownLight;
            for (int i = 0; i < planets.size(); i++) {
                Planet planet = planets.get(i);
                if (planet.dipsIn(hour)) {
                    sum = sum * planet.quotient;
                }
            }
            if (showsSpots(hour)) {
                sum = sum * ((1000 - spotDepth) / 1000.0);
            }
            return sum + blend;
        }

        private boolean showsSpots(int hour) {
            return spin > 0 && hour % spin < spin / 4;
        }
    }

    /** The light that was kept of one star. */
    private static final class Nights {
        // 0.0 stands for an hour that was not kept: no dips make a star as dark as that.
        private final double[] light;
        private int keptCount;

        Nights() {
            this.light = new double[HOURS];
            this.keptCount = 0;
        }

        /** Copies, because what is kept later must not change what a world was listed by. */
        Nights(Nights those) {
            this.light = those.light.clone();
            this.keptCount = those.keptCount;
        }

        boolean hasLight(int hour) {
            return lightOf(hour) > 0.0;
        }

        double lightOf(int hour) {
            return hour >= 0 && hour < light.length ? light[hour] : 0.0;
        }

        void keep(int hour, double now) {
            if (hour >= 0 && hour < light.length) {
                light[hour] = now;
                keptCount++;
            }
        }
    }

    /** Light that was kept, folded by a period or by twice one. */
    private static final class Folding {
        private final double[] sums = new double[2 * MOST_PERIOD];
        private final int[] counts = new int[2 * MOST_PERIOD];
        private int folds = 0;
        private double mean = 0.0;

        void foldBy(int period, Nights nights) {
            Arrays.fill(sums, 0.0);
            Arrays.fill(counts, 0);
            folds = 0;
            mean = 0.0;
            if (period < 1 || period > sums.length || period > counts.length) {
                return;
            }
            folds = period;
            double[] light = nights.light;
            double total = 0.0;
            for (int hour = 0; hour < light.length; hour++) {
                if (light[hour] > 0.0) {
                    int fold = hour % period;
                    sums[fold] = sums[fold] + light[hour];
                    counts[fold]++;
                    total = total + light[hour];
                }
            }
            if (nights.keptCount > 0) {
                mean = total / nights.keptCount;
            }
        }

        boolean hasHours(int fold) {
            return fold >= 0 && fold < counts.length && counts[fold] > 0;
        }

        double meanOf(int fold) {
            return hasHours(fold) && fold < sums.length ? sums[fold] / counts[fold] : 0.0;
        }

        double scoreOf(int fold) {
            return hasHours(fold) ? (mean - meanOf(fold)) * counts[fold] : 0.0;
        }

        /** The lowest fold with the greatest score; even that can be below 0 by what the means are rounded. */
        int bestFold() {
            int best = NONE;
            double greatest = 0.0;
            for (int fold = 0; fold < folds; fold++) {
                if (hasHours(fold)) {
                    double reached = scoreOf(fold);
                    if (best == NONE || reached > greatest) {
                        greatest = reached;
                        best = fold;
                    }
                }
            }
            return best;
        }
    }

    private static final class World {
        private final int star;
        private final int threshold;
        private final int period;
        private final int phase;
        private final Nights nights;
        private boolean isWithdrawn = false;

        World(int star, int threshold, int period, int phase, Nights nights) {
            this.star = star;
            this.threshold = threshold;
            this.period = period;
            this.phase = phase;
            this.nights = nights;
        }
    }

    private static final class Paper {
        private final World subject;
        // null if it cites no paper.
        private final Paper cited;
        private boolean isFallen = false;

        Paper(World subject, Paper cited) {
            this.subject = subject;
            this.cited = cited;
        }

        boolean mustFall() {
            return subject.isWithdrawn || (cited != null && cited.isFallen);
        }
    }
}
