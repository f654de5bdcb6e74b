import java.util.ArrayList;
import java.util.List;

/** The two sentences on refusals: their order, and that what is refused changes nothing. */
public final class RefusalsTest {
    private static final String[] BARE = {};
    /** A service with a unit, but no areas, and so a run without calls. */
    private static final String[] NO_AREAS = {"station 5 5", "unit 0", "run 0 1 1 0"};
    /** Four of five units at station 0, each variant in another way, and a run of 12 calls. */
    private static final String[] HALF_FULL = {
        "station 10 10", "station 80 70", "station 35 60", "area 12 9 10", "area 75 80 5", "area 40 40 50",
        "unit 0", "unit 0", "unit 0", "unit 0", "unit 1", "change 1 4 2", "change 2 0 -1", "change 3 0 1",
        "rules 3 17", "run 0 42 17 12"};
    /** Six stations, four units at 0 and at 5, two at 1 and at 2; ten areas; and a run of 12 calls. */
    private static final String[] FULL = {
        "station 0 0", "station 99 0", "station 0 99", "station 99 99", "station 50 50", "station 20 70",
        "area 0 0 1", "area 10 90 50", "area 20 80 5", "area 30 70 5", "area 40 60 5", "area 50 50 5",
        "area 60 40 5", "area 70 30 5", "area 80 20 5", "area 90 10 5",
        "unit 0", "unit 0", "unit 0", "unit 0", "unit 5", "unit 5", "unit 5", "unit 5", "unit 1", "unit 1",
        "unit 2", "unit 2", "change 1 11 3", "change 2 5 -1", "change 3 0 4", "rules 9 60", "run 2 -8 999 12"};

    private static final String UNKNOWN = "IllegalArgumentException";
    private static final String RANGE = "IndexOutOfBoundsException";
    private static final String STATE = "IllegalStateException";
    private static final String ROOM = "UnsupportedOperationException";
    private static final String NONE = "ArithmeticException";

    /** Whole numbers that lie beside all ranges, and beside what an int's sums can hold. */
    private static final int[] FAR = {Integer.MIN_VALUE, Integer.MIN_VALUE + 1, Integer.MAX_VALUE - 1,
        Integer.MAX_VALUE};

    public static void main(String[] args) {
        Check.sentence("Refusals, in this order: an unknown number .. ; a number outside its range .. ;"
                + " not in this state .. ; no room .. ; then, where it is told, ArithmeticException.");
        unknownIsAheadOfRange();
        unknownIsAheadOfState();
        unknownIsAheadOfRoom();
        unknownIsAheadOfArithmetic();
        rangeIsAheadOfState();
        rangeIsAheadOfRoom();
        stateIsAheadOfRoom();
        Check.sentence("What is refused changes nothing.");
        eachKindOfRefusalChangesNothing();
        Check.sentence("Refusals, in this order .. What is refused changes nothing.");
        edgesOfAllNumbersTogether();
        Check.finish();
    }

    private static void refuses(String[] before, String call, String want) {
        DaySimulate asked = Asked.after(before);
        Check.same(call, want, Asked.of(asked, call));
        DaySimulate spared = Asked.after(before);
        Check.same("what is seen behind " + call, Portrait.seen(spared), Portrait.seen(asked));
        Check.same("what comes behind " + call, Portrait.coming(spared), Portrait.coming(asked));
    }

    private static void unknownIsAheadOfRange() {
        refuses(HALF_FULL, "run 4 0 1000 5", UNKNOWN);
        refuses(HALF_FULL, "run -1 0 0 61", UNKNOWN);
        refuses(HALF_FULL, "unlucky 4 0 0 0 5", UNKNOWN);
        refuses(HALF_FULL, "unlucky -1 0 1 1000 5", UNKNOWN);
        refuses(HALF_FULL, "unlucky 4 0 1 0 61", UNKNOWN);
        refuses(HALF_FULL, "compare 4 0 0 0 21 0", UNKNOWN);
        refuses(HALF_FULL, "compare 0 -1 0 1000 1 0", UNKNOWN);
        refuses(HALF_FULL, "compare 0 1 0 999 2 4", UNKNOWN);
        refuses(HALF_FULL, "compare 0 1 0 -1 1 -1", UNKNOWN);
    }

    private static void unknownIsAheadOfState() {
        refuses(HALF_FULL, "change 0 4 0", UNKNOWN);
        refuses(HALF_FULL, "change 4 4 0", UNKNOWN);
        refuses(HALF_FULL, "change 1 5 0", UNKNOWN);
        refuses(HALF_FULL, "change 1 -1 0", UNKNOWN);
        refuses(NO_AREAS, "run 4 0 0 1", UNKNOWN);
        refuses(NO_AREAS, "unlucky 4 0 1 0 1", UNKNOWN);
        refuses(NO_AREAS, "compare 4 0 0 0 1 0", UNKNOWN);
        refuses(NO_AREAS, "compare 0 4 0 0 1 0", UNKNOWN);
        refuses(NO_AREAS, "compare 0 1 0 0 1 4", UNKNOWN);
    }

    private static void unknownIsAheadOfRoom() {
        refuses(FULL, "unit 6", UNKNOWN);
        refuses(FULL, "unit -1", UNKNOWN);
    }

    private static void unknownIsAheadOfArithmetic() {
        refuses(BARE, "share 2", UNKNOWN);
        refuses(NO_AREAS, "share -1", UNKNOWN);
    }

    private static void rangeIsAheadOfState() {
        refuses(NO_AREAS, "run 0 0 1000 1", RANGE);
        refuses(NO_AREAS, "run 0 0 -1 1", RANGE);
        refuses(NO_AREAS, "run 0 0 0 61", RANGE);
        refuses(NO_AREAS, "run 0 0 0 -1", RANGE);
        refuses(NO_AREAS, "unlucky 0 0 0 0 1", RANGE);
        refuses(NO_AREAS, "unlucky 0 0 9 0 1", RANGE);
        refuses(NO_AREAS, "unlucky 0 0 1 1000 1", RANGE);
        refuses(NO_AREAS, "unlucky 0 0 1 0 61", RANGE);
        refuses(NO_AREAS, "unlucky 0 0 1 0 -1", RANGE);
        refuses(NO_AREAS, "compare 0 1 0 0 0 0", RANGE);
        refuses(NO_AREAS, "compare 0 1 0 0 21 0", RANGE);
        refuses(NO_AREAS, "compare 0 1 0 -1 1 0", RANGE);
        refuses(NO_AREAS, "compare 0 1 0 999 2 0", RANGE);
    }

    private static void rangeIsAheadOfRoom() {
        refuses(FULL, "station -1 0", RANGE);
        refuses(FULL, "station 0 100", RANGE);
        refuses(FULL, "area 100 0 1", RANGE);
        refuses(FULL, "area 0 -1 1", RANGE);
        refuses(FULL, "area 0 0 0", RANGE);
        refuses(FULL, "area 0 0 51", RANGE);
    }

    private static void stateIsAheadOfRoom() {
        refuses(FULL, "unit 0", STATE);
        refuses(FULL, "unit 5", STATE);
        refuses(FULL, "unit 1", ROOM);
    }

    private static void eachKindOfRefusalChangesNothing() {
        refuses(HALF_FULL, "station 100 0", RANGE);
        refuses(FULL, "station 5 5", ROOM);
        refuses(HALF_FULL, "area 5 5 51", RANGE);
        refuses(HALF_FULL, "area 5 100 5", RANGE);
        refuses(FULL, "area 5 5 5", ROOM);
        refuses(HALF_FULL, "unit 3", UNKNOWN);
        refuses(HALF_FULL, "unit 0", STATE);
        refuses(FULL, "unit 4", ROOM);
        refuses(HALF_FULL, "change 0 0 2", UNKNOWN);
        refuses(HALF_FULL, "change 1 5 2", UNKNOWN);
        refuses(HALF_FULL, "change 1 0 3", UNKNOWN);
        refuses(HALF_FULL, "change 1 0 -2", UNKNOWN);
        refuses(HALF_FULL, "change 1 4 0", STATE);
        refuses(HALF_FULL, "rules 10 5", RANGE);
        refuses(HALF_FULL, "rules 9 1001", RANGE);
        refuses(HALF_FULL, "rules 0 0", RANGE);
        refuses(HALF_FULL, "run 4 1 1 5", UNKNOWN);
        refuses(HALF_FULL, "run 1 1 1000 5", RANGE);
        refuses(HALF_FULL, "run 1 1 1 61", RANGE);
        refuses(NO_AREAS, "run 0 1 1 5", STATE);
        refuses(HALF_FULL, "call 12 0", UNKNOWN);
        refuses(HALF_FULL, "call 0 6", UNKNOWN);
        refuses(HALF_FULL, "share 2", UNKNOWN);
        refuses(NO_AREAS, "share 0", NONE);
        refuses(NO_AREAS, "mean", NONE);
        refuses(HALF_FULL, "work 5", UNKNOWN);
        refuses(HALF_FULL, "arrived 10000", RANGE);
        refuses(HALF_FULL, "unlucky 4 1 1 1 5", UNKNOWN);
        refuses(HALF_FULL, "unlucky 1 1 9 1 5", RANGE);
        refuses(HALF_FULL, "unlucky 1 1 1 1 61", RANGE);
        refuses(NO_AREAS, "unlucky 0 1 1 1 5", STATE);
        refuses(HALF_FULL, "compare 0 4 1 1 1 0", UNKNOWN);
        refuses(HALF_FULL, "compare 0 1 1 981 20 0", RANGE);
        refuses(HALF_FULL, "compare 0 1 1 1 21 0", RANGE);
        refuses(NO_AREAS, "compare 0 1 1 1 1 0", STATE);
    }

    /** Every call with every mixture of numbers at and beside its limits, held against SlowService. */
    private static void edgesOfAllNumbersTogether() {
        int[] place = {-1, 0, 99, 100};
        int[] variant = {-1, 0, 1, 3, 4};
        int[] unit = {-1, 0, 4, 5, 11, 12};
        int[] station = {-2, -1, 0, 1, 2, 3, 5, 6};
        int[] day = {-1, 0, 980, 981, 999, 1000};
        int[] seed = {-1};
        int[] calls = {-1, 0, 1, 60, 61};
        mixtures("station", place, place);
        mixtures("area", place, place, new int[] {-1, 0, 1, 50, 51});
        mixtures("unit", beside(station));
        mixtures("change", beside(variant), beside(unit), beside(station));
        mixtures("rules", beside(0, 1, 9, 10), beside(-1, 0, 1000, 1001));
        mixtures("run", variant, seed, beside(day), beside(calls));
        mixtures("call", beside(-1, 0, 11, 12, 59, 60), beside(-1, 0, 5, 6));
        mixtures("share", beside(-1, 0, 1, 2));
        mixtures("work", beside(unit));
        mixtures("arrived", beside(-1, 0, 1439, 1440, 9999, 10000));
        mixtures("unlucky", variant, seed, beside(0, 1, 8, 9), day, calls);
        mixtures("compare", new int[] {0, 4}, variant, seed, beside(day), beside(0, 1, 2, 20, 21),
                new int[] {-1, 0, 3, 4});
    }

    private static int[] beside(int... near) {
        int[] all = new int[near.length + FAR.length];
        System.arraycopy(near, 0, all, 0, near.length);
        System.arraycopy(FAR, 0, all, near.length, FAR.length);
        return all;
    }

    private static void mixtures(String name, int[]... numbers) {
        List<String> calls = new ArrayList<>();
        calls.add(name);
        for (int[] choice : numbers) {
            List<String> longer = new ArrayList<>();
            for (String call : calls) {
                for (int number : choice) {
                    longer.add(call + " " + number);
                }
            }
            calls = longer;
        }
        for (String[] before : new String[][] {BARE, NO_AREAS, HALF_FULL, FULL}) {
            for (String call : calls) {
                holdAgainstSlow(before, call);
            }
        }
    }

    private static void holdAgainstSlow(String[] before, String call) {
        DaySimulate d = Asked.after(before);
        SlowService s = Asked.slowAfter(before);
        String told = "behind " + before.length + " calls " + call;
        String want = Asked.of(s, call);
        Check.same(told, want, Asked.of(d, call));
        if (want.endsWith("Exception")) {
            Check.same("what is seen " + told, Portrait.seen(Asked.after(before)), Portrait.seen(d));
        }
    }
}
