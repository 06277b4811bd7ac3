/** Promises 1 to 6: a new object, star, planet, spots, blend, light. */
public final class StarsTest {
    private static final int[] NO_STARS = {-1, 1, 6, Integer.MIN_VALUE, Integer.MAX_VALUE};
    private static final int[] NO_HOURS = {-1, 1000, Integer.MIN_VALUE, Integer.MAX_VALUE};
    private static final Check check = new Check();

    public static void main(String[] args) {
        newObject();
        star();
        planet();
        planetThrows();
        spots();
        blend();
        lightOfPlanets();
        lightOfSpotsAndBlend();
        lightThrows();
        check.end();
    }

    private static Transitry withStar(int light) {
        Transitry x = new Transitry();
        x.star(light);
        return x;
    }

    private static void newObject() {
        Transitry x = new Transitry();
        check.noIndex("light of a new object", () -> x.light(0, 0));
        check.noIndex("about of a new object", () -> x.about(0, 0));
        check.noIndex("hasFallen of a new object", () -> x.hasFallen(0));
        check.due("first star", x.star(1000), 0);
        check.due("no clouds but this one", x.cloud(999, 999), 1);
        check.due("NONE", Transitry.NONE, -1);

        Transitry other = new Transitry();
        check.noIndex("objects share no stars", () -> other.light(0, 0));
        check.due("objects share no clouds", other.cloud(0, 1), 2);
    }

    private static void star() {
        Transitry x = new Transitry();
        for (int light : new int[] {999, 1000001, 0, -1000, Integer.MIN_VALUE, Integer.MAX_VALUE}) {
            check.noArgument("star " + light, () -> x.star(light));
        }
        int[] lights = {1000, 1000000, 1001, 999999, 2000, 3000};
        for (int i = 0; i < 6; i++) {
            check.due("star number", x.star(lights[i]), i);
        }
        check.noState("a seventh star", () -> x.star(1000));
        check.noArgument("a seventh star out of range", () -> x.star(999));
        for (int i = 0; i < 6; i++) {
            check.dueDouble("light as told", x.light(i, 500), lights[i]);
        }
        check.noIndex("there is no seventh star", () -> x.light(6, 0));

        Transitry powers = new Transitry();
        for (int i = 0; i < 6; i++) {
            powers.star(1024 << i);
            check.dueDouble("light that is a power of two", powers.light(i, 0), 1024 << i);
        }
    }

    private static void planet() {
        Transitry x = withStar(1000);
        x.star(1000);
        check.due("shortest period", x.planet(0, 2, 1, 1, 1), 1);
        check.due("longest period, phase and length", x.planet(0, 60, 59, 4, 200), 2);
        check.due("length just less than period", x.planet(0, 4, 3, 3, 1), 3);
        check.due("another star counts its own", x.planet(1, 5, 0, 4, 1), 1);
        check.due("a fourth planet", x.planet(0, 5, 0, 1, 1), 4);
        check.noState("a fifth planet", () -> x.planet(0, 5, 0, 1, 1));
        check.noArgument("a fifth planet out of range", () -> x.planet(0, 1, 0, 1, 1));
        check.noIndex("a planet of no star", () -> x.planet(2, 5, 0, 1, 1));
        check.due("the other star has room", x.planet(1, 5, 0, 4, 1), 2);
    }

    private static void planetThrows() {
        Transitry x = withStar(1000);
        for (int star : NO_STARS) {
            check.noIndex("planet of star " + star, () -> x.planet(star, 7, 0, 1, 1));
            check.noIndex("planet of star " + star + ", all out of range", () -> x.planet(star, 0, -1, 0, 0));
        }
        int[][] bad = {
            {1, 0, 1, 1}, {61, 0, 1, 1}, {0, 0, 1, 1}, {-7, 0, 1, 1}, {Integer.MIN_VALUE, 0, 1, 1},
            {Integer.MAX_VALUE, 0, 1, 1}, {7, -1, 1, 1}, {7, 7, 1, 1}, {60, 60, 1, 1}, {2, 2, 1, 1},
            {7, Integer.MIN_VALUE, 1, 1}, {7, Integer.MAX_VALUE, 1, 1}, {7, 0, 0, 1}, {7, 0, 5, 1}, {7, 0, -1, 1},
            {2, 0, 2, 1}, {3, 0, 3, 1}, {4, 0, 4, 1}, {7, 0, Integer.MAX_VALUE, 1}, {7, 0, Integer.MIN_VALUE, 1},
            {7, 0, 1, 0}, {7, 0, 1, 201}, {7, 0, 1, -1}, {7, 0, 1, Integer.MAX_VALUE}, {7, 0, 1, Integer.MIN_VALUE},
        };
        for (int[] b : bad) {
            String call = "planet(0, " + b[0] + ", " + b[1] + ", " + b[2] + ", " + b[3] + ")";
            check.noArgument(call, () -> x.planet(0, b[0], b[1], b[2], b[3]));
        }
        check.due("none of those was told", x.planet(0, 7, 6, 4, 200), 1);
    }

    private static void spots() {
        Transitry x = withStar(1000);
        x.star(1000);
        check.due("0 without spots", x.spots(0, 4, 100), 0);
        check.due("those before", x.spots(0, 60, 7), 100);
        for (int star : new int[] {-1, 2, Integer.MIN_VALUE, Integer.MAX_VALUE}) {
            check.noIndex("spots of star " + star, () -> x.spots(star, 4, 1));
            check.noIndex("spots of star " + star + ", all out of range", () -> x.spots(star, 3, -1));
        }
        for (int spin : new int[] {3, 61, 0, -4, Integer.MIN_VALUE, Integer.MAX_VALUE}) {
            check.noArgument("spots of spin " + spin, () -> x.spots(0, spin, 1));
        }
        for (int depth : new int[] {-1, 101, Integer.MIN_VALUE, Integer.MAX_VALUE}) {
            check.noArgument("spots of depth " + depth, () -> x.spots(0, 4, depth));
        }
        check.due("a call that throws changed nothing", x.spots(0, 8, 0), 7);
        check.due("depth 0", x.spots(0, 8, 3), 0);
        check.due("another star has its own", x.spots(1, 8, 5), 0);
    }

    private static void blend() {
        Transitry x = withStar(1000);
        x.star(1000);
        check.due("0 at first", x.blend(0, 1000000), 0);
        check.due("that before", x.blend(0, 5), 1000000);
        for (int star : new int[] {-1, 2, Integer.MIN_VALUE, Integer.MAX_VALUE}) {
            check.noIndex("blend of star " + star, () -> x.blend(star, 1));
            check.noIndex("blend of star " + star + " out of range", () -> x.blend(star, -1));
        }
        for (int light : new int[] {-1, 1000001, Integer.MIN_VALUE, Integer.MAX_VALUE}) {
            check.noArgument("blend " + light, () -> x.blend(0, light));
        }
        check.dueDouble("light with the blend", x.light(0, 0), 1005.0);
        check.due("a call that throws changed nothing", x.blend(0, 0), 5);
        check.dueDouble("light without a blend", x.light(0, 0), 1000.0);
        check.due("another star has its own", x.blend(1, 1), 0);
    }

    private static void lightOfPlanets() {
        Transitry x = withStar(1003);
        x.planet(0, 7, 5, 3, 137);
        // Phase 5 and length 3 reach over the period's end, into hour 0 too.
        boolean[] dips = {true, false, false, false, false, true, true};
        for (int hour = 0; hour < 1000; hour++) {
            double want = dips[hour % 7] ? 1003.0 * (863 / 1000.0) : 1003.0;
            check.dueDouble("light in hour " + hour, x.light(0, hour), want);
            if (hour == 300) {
                hour = 900;
            }
        }

        // The order of the quotients shows in the last bits.
        Transitry y = withStar(999983);
        y.star(999983);
        int[] depths = {7, 33, 151, 199};
        for (int i = 0; i < 4; i++) {
            y.planet(0, 9, 0, 1, depths[i]);
            y.planet(1, 9, 0, 1, depths[3 - i]);
        }
        double told = 999983.0;
        double backwards = 999983.0;
        for (int i = 0; i < 4; i++) {
            told = told * ((1000 - depths[i]) / 1000.0);
            backwards = backwards * ((1000 - depths[3 - i]) / 1000.0);
        }
        check.due("the orders differ", told != backwards, true);
        check.dueDouble("in the order told", y.light(0, 9), told);
        check.dueDouble("in the other order told", y.light(1, 9), backwards);
        check.dueDouble("outside the dips", y.light(0, 8), 999983.0);
    }

    private static void lightOfSpotsAndBlend() {
        Transitry x = withStar(1009);
        x.spots(0, 11, 73);
        for (int hour = 0; hour < 33; hour++) {
            double want = hour % 11 < 2 ? 1009.0 * (927 / 1000.0) : 1009.0;
            check.dueDouble("spots in hour " + hour, x.light(0, hour), want);
        }
        x.spots(0, 4, 100);
        for (int hour = 990; hour < 1000; hour++) {
            double want = hour % 4 == 0 ? 1009.0 * (900 / 1000.0) : 1009.0;
            check.dueDouble("quick spots in hour " + hour, x.light(0, hour), want);
        }
        x.spots(0, 60, 1);
        check.dueDouble("the last hour of a quarter", x.light(0, 14), 1009.0 * (999 / 1000.0));
        check.dueDouble("the hour behind a quarter", x.light(0, 15), 1009.0);

        x.planet(0, 3, 0, 1, 111);
        x.blend(0, 77777);
        double want = 1009.0 * (889 / 1000.0) * (999 / 1000.0) + 77777.0;
        check.dueDouble("planet, spots, blend in this order", x.light(0, 60), want);
        check.dueDouble("dips dim no blend", x.light(0, 18), 1009.0 * (889 / 1000.0) + 77777.0);
        x.spots(0, 60, 0);
        check.dueDouble("spots without depth", x.light(0, 1), 1009.0 + 77777.0);
    }

    private static void lightThrows() {
        Transitry x = withStar(1000);
        for (int star : NO_STARS) {
            check.noIndex("light of star " + star, () -> x.light(star, 0));
        }
        for (int hour : NO_HOURS) {
            check.noIndex("light in hour " + hour, () -> x.light(0, hour));
        }
        check.dueDouble("first hour", x.light(0, 0), 1000.0);
        check.dueDouble("last hour", x.light(0, 999), 1000.0);
    }
}
