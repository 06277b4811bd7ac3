import java.util.ArrayList;
import java.util.List;
import java.util.function.Consumer;
import java.util.function.Supplier;

/** The document's sentences on exceptions, "Terms", each for all calls; and its constant. */
final class ThrowsSentences {
    private static final Class<IndexOutOfBoundsException> INDEX = IndexOutOfBoundsException.class;
    private static final Class<IllegalArgumentException> ARGUMENT = IllegalArgumentException.class;
    private static final Class<IllegalStateException> STATE = IllegalStateException.class;
    private static final int NONE = Transitry.NONE;

    /** A call that throws, and what. */
    private record Refusal(String call, Class<? extends RuntimeException> due, Consumer<Transitry> run) {
    }

    /** Collects what a scene refuses; a call takes its arguments from an array, to be told with them. */
    private static final class Refusals {
        private final List<Refusal> all = new ArrayList<>();

        void add(Class<? extends RuntimeException> due, String call, int... a) {
            StringBuilder text = new StringBuilder(call).append('(');
            for (int i = 0; i < a.length; i++) {
                text.append(i == 0 ? "" : ", ").append(a[i]);
            }
            all.add(new Refusal(text.append(')').toString(), due, x -> ask(x, call, a)));
        }

        /** One refusal for each value that stands in place of this argument. */
        void addEach(Class<? extends RuntimeException> due, int[] values, int argument, String call, int... a) {
            for (int value : values) {
                int[] own = a.clone();
                own[argument] = value;
                add(due, call, own);
            }
        }
    }

    private static void ask(Transitry x, String call, int[] a) {
        switch (call) {
            case "star" -> x.star(a[0]);
            case "planet" -> x.planet(a[0], a[1], a[2], a[3], a[4]);
            case "spots" -> x.spots(a[0], a[1], a[2]);
            case "blend" -> x.blend(a[0], a[1]);
            case "light" -> x.light(a[0], a[1]);
            case "cloud" -> x.cloud(a[0], a[1]);
            case "observe" -> x.observe(a[0], a[1], a[2]);
            case "kept" -> x.kept(a[0], a[1]);
            case "score" -> x.score(a[0], a[1]);
            case "phase" -> x.phase(a[0], a[1]);
            case "period" -> x.period(a[0], a[1]);
            case "whyNot" -> x.whyNot(a[0], a[1]);
            case "oddEven" -> x.oddEven(a[0], a[1]);
            case "world" -> x.world(a[0], a[1]);
            case "about" -> x.about(a[0], a[1]);
            case "periodAnew" -> x.periodAnew(a[0]);
            case "paper" -> x.paper(a[0], a[1]);
            case "withdraw" -> x.withdraw(a[0]);
            case "hasFallen" -> x.hasFallen(a[0]);
            default -> throw new AssertionError(call);
        }
    }

    private static void dueEach(Check check, Supplier<Transitry> scene, Refusals refusals) {
        for (Refusal each : refusals.all) {
            Transitry x = scene.get();
            check.dueThrow(each.call, each.due, () -> each.run.accept(x));
        }
    }

    // ---- each exception alone

    /** No such star, hour, world or paper, all else in range; of a scene that has so many of them. */
    private static Refusals withoutIndex(int stars, int worlds, int papers) {
        Refusals refusals = new Refusals();
        int[] noStars = Check.beyond(0, stars - 1);
        int[] noHours = Check.beyond(0, 999);
        int[] noWorlds = Check.beyond(0, worlds - 1);
        refusals.addEach(INDEX, noStars, 0, "planet", 0, 7, 0, 1, 1);
        refusals.addEach(INDEX, noStars, 0, "spots", 0, 4, 1);
        refusals.addEach(INDEX, noStars, 0, "blend", 0, 1);
        refusals.addEach(INDEX, noStars, 0, "light", 0, 0);
        refusals.addEach(INDEX, noHours, 1, "light", 0, 0);
        refusals.addEach(INDEX, noHours, 0, "cloud", 0, 999);
        refusals.addEach(INDEX, noHours, 1, "cloud", 0, 999);
        refusals.addEach(INDEX, noStars, 0, "observe", 0, 0, 999);
        refusals.addEach(INDEX, noHours, 1, "observe", 0, 0, 999);
        refusals.addEach(INDEX, noHours, 2, "observe", 0, 0, 999);
        refusals.addEach(INDEX, noStars, 0, "kept", 0, 0);
        refusals.addEach(INDEX, noHours, 1, "kept", 0, 0);
        refusals.addEach(INDEX, noStars, 0, "score", 0, 7);
        refusals.addEach(INDEX, noStars, 0, "phase", 0, 7);
        refusals.addEach(INDEX, noStars, 0, "period", 0, 0);
        refusals.addEach(INDEX, noStars, 0, "whyNot", 0, 0);
        refusals.addEach(INDEX, noStars, 0, "oddEven", 0, 7);
        refusals.addEach(INDEX, noStars, 0, "world", 0, 0);
        refusals.addEach(INDEX, noWorlds, 0, "about", 0, 0);
        refusals.addEach(INDEX, noWorlds, 0, "periodAnew", 0);
        refusals.addEach(INDEX, noWorlds, 0, "paper", 0, NONE);
        refusals.addEach(INDEX, Check.beyond(NONE, papers - 1), 1, "paper", 0, 0);
        refusals.addEach(INDEX, noWorlds, 0, "withdraw", 0);
        refusals.addEach(INDEX, Check.beyond(0, papers - 1), 0, "hasFallen", 0);
        return refusals;
    }

    /** Each other argument out of its range. */
    private static Refusals withoutRange() {
        Refusals refusals = new Refusals();
        refusals.addEach(ARGUMENT, Check.beyond(1000, 1000000), 0, "star", 0);
        refusals.addEach(ARGUMENT, Check.beyond(2, 60), 1, "planet", 0, 0, 0, 1, 1);
        refusals.addEach(ARGUMENT, Check.beyond(0, 6), 2, "planet", 0, 7, 0, 1, 1);
        refusals.addEach(ARGUMENT, Check.beyond(1, 4), 3, "planet", 0, 7, 0, 0, 1);
        refusals.addEach(ARGUMENT, Check.beyond(1, 2), 3, "planet", 0, 3, 0, 0, 1);
        refusals.addEach(ARGUMENT, Check.beyond(1, 200), 4, "planet", 0, 7, 0, 1, 0);
        refusals.addEach(ARGUMENT, Check.beyond(4, 60), 1, "spots", 0, 0, 1);
        refusals.addEach(ARGUMENT, Check.beyond(0, 100), 2, "spots", 0, 4, 0);
        refusals.addEach(ARGUMENT, Check.beyond(4, 60), 1, "spots", 1, 0, 1);
        refusals.addEach(ARGUMENT, Check.beyond(0, 100), 2, "spots", 1, 4, 0);
        refusals.addEach(ARGUMENT, Check.beyond(0, 1000000), 1, "blend", 0, 0);
        refusals.addEach(ARGUMENT, Check.beyond(0, 1000000), 1, "blend", 1, 0);
        refusals.addEach(ARGUMENT, new int[] {0, 500, 998}, 1, "cloud", 999, 0);
        refusals.addEach(ARGUMENT, new int[] {0, 500, 998}, 2, "observe", 0, 999, 0);
        for (String call : new String[] {"score", "phase", "oddEven"}) {
            refusals.addEach(ARGUMENT, Check.beyond(2, 60), 1, call, 0, 0);
        }
        for (String call : new String[] {"period", "whyNot", "world"}) {
            refusals.addEach(ARGUMENT, Check.beyond(0, 1000000), 1, call, 0, 0);
        }
        refusals.addEach(ARGUMENT, Check.beyond(0, 3), 1, "about", 0, 0);
        return refusals;
    }

    /** All that the methods tell of states, in both scenes. */
    private static Refusals withoutStateAnywhere() {
        Refusals refusals = new Refusals();
        refusals.add(STATE, "planet", 1, 7, 0, 1, 1);
        for (String call : new String[] {"score", "phase", "oddEven"}) {
            refusals.add(STATE, call, 1, 2);
            refusals.add(STATE, call, 3, 60);
        }
        for (String call : new String[] {"period", "world"}) {
            refusals.add(STATE, call, 1, 0);
            refusals.add(STATE, call, 2, 0);
            refusals.add(STATE, call, 3, 1000000);
            refusals.add(STATE, call, 0, 1000000);
        }
        refusals.add(STATE, "paper", 2, NONE);
        refusals.add(STATE, "paper", 2, 0);
        refusals.add(STATE, "paper", 0, 2);
        refusals.add(STATE, "paper", 0, 3);
        refusals.add(STATE, "paper", 2, 3);
        refusals.add(STATE, "withdraw", 2);
        return refusals;
    }

    /** What the full scene alone refuses. */
    private static Refusals withoutRoom() {
        Refusals refusals = new Refusals();
        refusals.add(STATE, "star", 1000);
        refusals.add(STATE, "star", 1000000);
        refusals.add(STATE, "world", 0, 0);
        refusals.add(STATE, "paper", 0, NONE);
        refusals.add(STATE, "paper", 0, 0);
        refusals.add(STATE, "paper", 1, 29);
        return refusals;
    }

    @Holds(in = "Terms", says = "IndexOutOfBoundsException: there is no such hour, star, world or paper.")
    static void eachCallRefusesWhatIsNotThere(Check check) {
        dueEach(check, Scenes::roomy, withoutIndex(4, 3, 4));
        dueEach(check, Scenes::full, withoutIndex(6, 12, 30));
    }

    @Holds(in = "Terms", says = "IndexOutOfBoundsException: there is no such hour, star, world or paper.")
    static void eachCallOfANewObjectRefusesTheFirstOfAll(Check check) {
        Refusals refusals = new Refusals();
        refusals.add(INDEX, "planet", 0, 7, 0, 1, 1);
        refusals.add(INDEX, "spots", 0, 4, 1);
        refusals.add(INDEX, "observe", 0, 0, 999);
        for (String call : new String[] {"blend", "light", "kept", "period", "whyNot", "world", "about"}) {
            refusals.add(INDEX, call, 0, 0);
        }
        for (String call : new String[] {"score", "phase", "oddEven"}) {
            refusals.add(INDEX, call, 0, 2);
        }
        for (String call : new String[] {"periodAnew", "withdraw", "hasFallen"}) {
            refusals.add(INDEX, call, 0);
        }
        refusals.add(INDEX, "paper", 0, NONE);
        refusals.add(INDEX, "paper", 0, 0);
        dueEach(check, Transitry::new, refusals);
    }

    @Holds(in = "Terms", says = "IllegalArgumentException: another argument is out of its range.")
    static void eachCallRefusesWhatIsOutOfRange(Check check) {
        dueEach(check, Scenes::roomy, withoutRange());
        dueEach(check, Scenes::full, withoutRange());
    }

    @Holds(in = "Terms", says = "IllegalStateException: as the method tells.")
    static void eachCallRefusesAsItTells(Check check) {
        dueEach(check, Scenes::roomy, withoutStateAnywhere());
        dueEach(check, Scenes::full, withoutStateAnywhere());
        dueEach(check, Scenes::full, withoutRoom());
    }

    // ---- several exceptions at once

    private static Refusals withoutStarAndMore(int noStar) {
        Refusals refusals = new Refusals();
        refusals.add(INDEX, "planet", noStar, 1, -1, 0, 0);
        refusals.add(INDEX, "planet", noStar, 61, 61, 61, 201);
        refusals.add(INDEX, "spots", noStar, 3, -1);
        refusals.add(INDEX, "spots", noStar, 61, 101);
        refusals.add(INDEX, "blend", noStar, -1);
        refusals.add(INDEX, "blend", noStar, 1000001);
        refusals.add(INDEX, "light", noStar, 1000);
        refusals.add(INDEX, "observe", noStar, 1, 0);
        refusals.add(INDEX, "observe", noStar, 1000, -1);
        refusals.add(INDEX, "kept", noStar, -1);
        for (String call : new String[] {"score", "phase", "oddEven"}) {
            refusals.add(INDEX, call, noStar, 1);
            refusals.add(INDEX, call, noStar, 61);
        }
        for (String call : new String[] {"period", "whyNot", "world"}) {
            refusals.add(INDEX, call, noStar, -1);
            refusals.add(INDEX, call, noStar, 1000001);
        }
        return refusals;
    }

    @Holds(in = "Terms", says = "If several apply, the one that is named first in the throws clause is thrown;")
    static void noSuchStarIsThrownBeforeRangesAndStates(Check check) {
        for (int noStar : new int[] {-1, 6, Integer.MIN_VALUE, Integer.MAX_VALUE}) {
            dueEach(check, Transitry::new, withoutStarAndMore(noStar));
            dueEach(check, Scenes::roomy, withoutStarAndMore(noStar));
            dueEach(check, Scenes::full, withoutStarAndMore(noStar));
        }
    }

    @Holds(in = "Terms", says = "If several apply, the one that is named first in the throws clause is thrown;")
    static void noSuchHourIsThrownBeforeAWrongOrder(Check check) {
        Refusals refusals = new Refusals();
        refusals.add(INDEX, "cloud", 1000, 999);
        refusals.add(INDEX, "cloud", 1000, 0);
        refusals.add(INDEX, "cloud", 0, -1);
        refusals.add(INDEX, "cloud", Integer.MAX_VALUE, Integer.MIN_VALUE);
        refusals.add(INDEX, "observe", 0, 1000, 999);
        refusals.add(INDEX, "observe", 0, 1000, 0);
        refusals.add(INDEX, "observe", 0, 0, -1);
        refusals.add(INDEX, "observe", 0, Integer.MAX_VALUE, Integer.MIN_VALUE);
        dueEach(check, Scenes::roomy, refusals);
        dueEach(check, Scenes::full, refusals);
    }

    @Holds(in = "Terms", says = "If several apply, the one that is named first in the throws clause is thrown;")
    static void noSuchWorldOrPaperIsThrownBeforeRangesAndStates(Check check) {
        Refusals refusals = new Refusals();
        for (int none : new int[] {-2, 30, Integer.MIN_VALUE, Integer.MAX_VALUE}) {
            refusals.add(INDEX, "about", none, -1);
            refusals.add(INDEX, "about", none, 4);
            refusals.add(INDEX, "paper", none, NONE);
            // Paper 2 has fallen, world 2 is withdrawn.
            refusals.add(INDEX, "paper", none, 2);
            refusals.add(INDEX, "paper", 2, none);
            refusals.add(INDEX, "paper", none, none);
            refusals.add(INDEX, "paper", 0, none);
        }
        dueEach(check, Scenes::roomy, refusals);
        dueEach(check, Scenes::full, refusals);
    }

    @Holds(in = "Terms", says = "If several apply, the one that is named first in the throws clause is thrown;")
    static void aRangeIsThrownBeforeAState(Check check) {
        Refusals refusals = new Refusals();
        refusals.addEach(ARGUMENT, Check.beyond(2, 60), 1, "planet", 1, 0, 0, 1, 1);
        refusals.addEach(ARGUMENT, Check.beyond(0, 6), 2, "planet", 1, 7, 0, 1, 1);
        refusals.addEach(ARGUMENT, Check.beyond(1, 4), 3, "planet", 1, 7, 0, 0, 1);
        refusals.addEach(ARGUMENT, Check.beyond(1, 200), 4, "planet", 1, 7, 0, 1, 0);
        for (String call : new String[] {"score", "phase", "oddEven"}) {
            refusals.addEach(ARGUMENT, Check.beyond(2, 60), 1, call, 1, 0);
            refusals.addEach(ARGUMENT, Check.beyond(2, 60), 1, call, 3, 0);
        }
        for (String call : new String[] {"period", "whyNot", "world"}) {
            for (int star = 1; star <= 3; star++) {
                refusals.addEach(ARGUMENT, Check.beyond(0, 1000000), 1, call, star, 0);
            }
        }
        dueEach(check, Scenes::roomy, refusals);
        dueEach(check, Scenes::full, refusals);
        Refusals atTheEnd = new Refusals();
        atTheEnd.addEach(ARGUMENT, Check.beyond(1000, 1000000), 0, "star", 0);
        atTheEnd.addEach(ARGUMENT, Check.beyond(0, 1000000), 1, "world", 0, 0);
        dueEach(check, Scenes::full, atTheEnd);
    }

    // ---- nothing changes

    /** Two objects that are alike must stay alike, though one of both throws. */
    private static void dueUnchanged(Check check, Supplier<Transitry> scene, Refusals refusals) {
        List<String> told = Scenes.told(scene.get());
        List<String> toldByChanges = toldByChanges(scene);
        for (Refusal each : refusals.all) {
            Transitry x = scene.get();
            check.dueThrow(each.call, each.due, () -> each.run.accept(x));
            dueAlike(check, "behind " + each.call, Scenes.told(x), told);
            dueAlike(check, "behind " + each.call, Scenes.toldByChanges(x), toldByChanges);
        }
    }

    private static List<String> toldByChanges(Supplier<Transitry> scene) {
        return Scenes.toldByChanges(scene.get());
    }

    private static void dueAlike(Check check, String when, List<String> got, List<String> want) {
        check.due("answers " + when, got.size(), want.size());
        for (int i = 0; i < want.size(); i++) {
            check.dueText("answer " + i + " " + when, got.get(i), want.get(i));
        }
    }

    @Holds(in = "Terms", says = "a call that throws changes nothing.")
    static void aCallThatThrowsForWhatIsNotThereChangesNothing(Check check) {
        dueUnchanged(check, Scenes::roomy, withoutIndex(4, 3, 4));
        dueUnchanged(check, Scenes::full, withoutIndex(6, 12, 30));
    }

    @Holds(in = "Terms", says = "a call that throws changes nothing.")
    static void aCallThatThrowsForARangeChangesNothing(Check check) {
        dueUnchanged(check, Scenes::roomy, withoutRange());
        dueUnchanged(check, Scenes::full, withoutRange());
    }

    @Holds(in = "Terms", says = "a call that throws changes nothing.")
    static void aCallThatThrowsForAStateChangesNothing(Check check) {
        dueUnchanged(check, Scenes::roomy, withoutStateAnywhere());
        dueUnchanged(check, Scenes::full, withoutStateAnywhere());
        dueUnchanged(check, Scenes::full, withoutRoom());
    }

    @Holds(in = "Terms", says = "a call that throws changes nothing.")
    static void aNewObjectThatRefusedAllIsAsNew(Check check) {
        Transitry x = new Transitry();
        for (Refusal each : withoutIndex(0, 0, 0).all) {
            check.dueThrow(each.call, each.due, () -> each.run.accept(x));
        }
        check.due("no clouds", x.cloud(0, 0), 1);
        check.due("no stars", x.star(1000), 0);
        check.due("nothing kept", x.observe(0, 0, 999), 999);
        check.noIndex("no worlds", () -> x.about(0, 0));
        check.noIndex("no papers", () -> x.hasFallen(0));
    }

    // ---- the constant

    @Holds(in = "Terms", says = "The constants: `NONE = -1`: There is none.")
    static void noneIsMinus1(Check check) {
        check.due("NONE", Transitry.NONE, -1);
        Transitry x = Scenes.roomy();
        check.due("an hour that was not kept", x.kept(3, 0), -1L);
        check.due("a paper that cites none", x.paper(0, -1), 4);
    }
}
