/**
 * The document's beginning and its section "Terms", sentence by sentence. The draws that stand in
 * comments, as (minute, rank, lasts), and what comes of them were worked out apart from the class.
 */
public final class TermsTest {
    private static final int MIN = Integer.MIN_VALUE;
    private static final int MAX = Integer.MAX_VALUE;

    public static void main(String[] args) {
        used512Times();
        places();
        numbersOfStations();
        numbersOfAreas();
        weights();
        numbersOfUnits();
        ways();
        pace();
        variants();
        variant0();
        fourAtAStation();
        days();
        calls();
        mix();
        minuteRankAndLasts();
        areaOfACall();
        minutesPlayed();
        unitsThatAreBack();
        callsOfThisMinute();
        sendingGoesOn();
        whichCall();
        whichUnit();
        arrivesAndIsBack();
        variantWithoutUnits();
        delay();
        late();
        lateByTheMarkOfNow();
        mark();
        missed();
        work();
        theLatestRun();
        forgottenRun();
        Check.finish();
    }

    private static void used512Times() {
        Check.sentence("An object is used for at most 512 calls after it has been made");
        DaySimulate d = Towns.one(0);
        for (int asked = 3; asked < 511; asked += 2) {
            d.run(0, 1, 1, 60);
            d.arrived(9999);
        }
        Check.due("call 512", 3110, () -> d.work(0));
    }

    private static void places() {
        Check.sentence("PLACES are x, y (0 .. 99 each).");
        int[][] corners = {{0, 0}, {0, 99}, {99, 0}, {99, 99}};
        int[][] beside = {{-1, 0}, {0, -1}, {100, 99}, {99, 100}, {-1, -1}, {100, 100}, {MIN, 0}, {0, MIN}, {MAX, 0},
            {0, MAX}};
        DaySimulate d = new DaySimulate();
        for (int k = 0; k < corners.length; k++) {
            int number = k;
            int[] p = corners[k];
            Check.due("station at " + p[0] + ", " + p[1], k, () -> d.station(p[0], p[1]));
            Check.due("area at " + p[0] + ", " + p[1], number, () -> d.area(p[0], p[1], 1));
        }
        for (int[] p : beside) {
            Check.refused("station at " + p[0] + ", " + p[1], Check.RANGE, () -> d.station(p[0], p[1]));
            Check.refused("area at " + p[0] + ", " + p[1], Check.RANGE, () -> d.area(p[0], p[1], 1));
        }
    }

    private static void numbersOfStations() {
        Check.sentence("STATIONS 0, 1, .. (at most 6)");
        DaySimulate d = new DaySimulate();
        for (int k = 0; k < 6; k++) {
            Check.due("station " + k, k, () -> d.station(7, 7));
        }
        Check.refused("a 7th", Check.ROOM, () -> d.station(7, 7));
        Check.refused("a 7th once more", Check.ROOM, () -> d.station(8, 8));
    }

    private static void numbersOfAreas() {
        Check.sentence("AREAS 0, 1, .. (at most 10");
        DaySimulate d = new DaySimulate();
        for (int k = 0; k < 10; k++) {
            Check.due("area " + k, k, () -> d.area(7, 7, 50));
        }
        Check.refused("an 11th", Check.ROOM, () -> d.area(7, 7, 50));
        Check.refused("an 11th once more", Check.ROOM, () -> d.area(8, 8, 1));
    }

    private static void weights() {
        Check.sentence("each with a WEIGHT 1 .. 50");
        DaySimulate d = new DaySimulate();
        Check.due("weight 1", 0, () -> d.area(0, 0, 1));
        Check.due("weight 50", 1, () -> d.area(0, 0, 50));
        for (int weight : new int[] {0, 51, -1, MIN, MAX}) {
            Check.refused("weight " + weight, Check.RANGE, () -> d.area(0, 0, weight));
        }
    }

    private static void numbersOfUnits() {
        Check.sentence("UNITS 0, 1, .. (at most 12) have a station.");
        DaySimulate d = Towns.stations(6);
        for (int k = 0; k < 12; k++) {
            int number = k;
            Check.due("unit " + k, k, () -> d.unit(number % 6));
        }
        for (int s = 0; s < 6; s++) {
            int station = s;
            Check.refused("a 13th at " + s, Check.ROOM, () -> d.unit(station));
        }
        all12AtWork();
    }

    /** So far away that each of 12 units goes out five times. */
    private static void all12AtWork() {
        DaySimulate d = new DaySimulate();
        for (int s = 0; s < 3; s++) {
            d.station(0, 0);
            Towns.units(d, s, 4);
        }
        d.area(99, 99, 1);
        d.rules(9, 1000);
        Check.due("late calls of 12 units", 40, () -> d.run(0, 5, 5, 60));
        Check.due("missed minutes of 12 units", 1129, d::missed);
        int[] want = {4713, 4741, 4735, 4696, 4749, 4801, 4710, 4802, 4772, 4781, 4705, 4715};
        for (int u = 0; u < 12; u++) {
            int number = u;
            Check.due("work of unit " + u, want[u], () -> d.work(number));
        }
    }

    private static void ways() {
        Check.sentence("The WAY .. takes so many minutes as the differences along x and y are together,"
                + " times the PACE .. , over 4, rounded up.");
        // x and y of the station, of the area, pace, way
        int[][] all = {{0, 0, 0, 0, 1, 0}, {99, 99, 99, 99, 9, 0}, {0, 0, 1, 0, 1, 1}, {0, 0, 3, 0, 1, 1},
            {0, 0, 4, 0, 1, 1}, {0, 0, 5, 0, 1, 2}, {0, 0, 0, 1, 1, 1}, {0, 0, 2, 2, 1, 1}, {0, 0, 2, 3, 1, 2},
            {99, 99, 0, 0, 1, 50}, {0, 0, 99, 99, 1, 50}, {0, 99, 99, 0, 9, 446}, {99, 0, 0, 99, 9, 446},
            {50, 50, 49, 51, 2, 1}, {50, 50, 49, 51, 3, 2}, {10, 20, 13, 20, 4, 3}, {1, 0, 0, 0, 9, 3}};
        for (int[] w : all) {
            DaySimulate d = new DaySimulate();
            d.station(w[0], w[1]);
            d.area(w[2], w[3], 1);
            d.unit(0);
            d.rules(w[4], 1000);
            d.run(0, 0, 0, 1);
            Check.due("from " + w[0] + ", " + w[1] + " to " + w[2] + ", " + w[3] + " at pace " + w[4], w[5],
                    () -> d.call(0, 4));
        }
    }

    private static void pace() {
        Check.sentence("the PACE (1 .. 9; 1 at first)");
        DaySimulate d = Towns.one(80);
        d.run(0, 0, 0, 1);
        Check.due("way of 80 at first", 20, () -> d.call(0, 4));
        Check.taken("pace 9", () -> d.rules(9, 10));
        d.run(0, 0, 0, 1);
        Check.due("way of 80 at pace 9", 180, () -> d.call(0, 4));
        Check.taken("pace 1", () -> d.rules(1, 10));
        for (int pace : new int[] {0, 10, -1, MIN, MAX}) {
            Check.refused("pace " + pace, Check.RANGE, () -> d.rules(pace, 10));
        }
    }

    private static void variants() {
        Check.sentence("VARIANTS 0 .. 3 tell for each unit another station, or that it is left out");
        DaySimulate d = Towns.ends();
        d.change(3, 0, -1);
        // seed 0 draws area 0
        int[] delays = {0, 25, 0, -1};
        for (int v = 0; v < 4; v++) {
            d.run(v, 0, 0, 1);
            Check.due("delay in variant " + v, delays[v], () -> d.call(0, 4));
        }
        for (int variant : new int[] {-1, 4, MIN, MAX}) {
            Check.refused("run of variant " + variant, Check.UNKNOWN, () -> d.run(variant, 0, 0, 1));
            Check.refused("change of variant " + variant, Check.UNKNOWN, () -> d.change(variant, 0, 0));
        }
    }

    private static void variant0() {
        Check.sentence("variant 0 tells nothing.");
        DaySimulate d = Towns.ends();
        Check.refused("another station", Check.UNKNOWN, () -> d.change(0, 0, 1));
        Check.refused("its own station", Check.UNKNOWN, () -> d.change(0, 0, 0));
        Check.refused("left out", Check.UNKNOWN, () -> d.change(0, 0, -1));
        for (int v = 1; v < 4; v++) {
            d.change(v, 0, -1);
        }
        d.run(0, 0, 0, 1);
        Check.due("the unit is where it was", 0, () -> d.call(0, 4));
    }

    private static void fourAtAStation() {
        Check.sentence("A station has at most 4 units in each variant.");
        DaySimulate d = Towns.stations(2);
        for (int k = 0; k < 4; k++) {
            int number = k;
            Check.due("unit " + k + " at 0", number, () -> d.unit(0));
        }
        Check.refused("a 5th at 0", Check.STATE, () -> d.unit(0));
        Check.due("one at 1", 4, () -> d.unit(1));
        for (int v = 1; v < 4; v++) {
            int variant = v;
            Check.refused("a 5th at 0 in variant " + v, Check.STATE, () -> d.change(variant, 4, 0));
            Check.taken("one goes from 0 in variant " + v, () -> d.change(variant, 2, 1));
            Check.taken("now there is room in variant " + v, () -> d.change(variant, 4, 0));
            Check.refused("it is full again in variant " + v, Check.STATE, () -> d.change(variant, 2, 0));
        }
    }

    private static void days() {
        Check.sentence("A DAY is a seed, a number (0 .. 999)");
        DaySimulate d = Towns.one(0);
        for (int day : new int[] {-1, 1000, MIN, MAX}) {
            Check.refused("day " + day, Check.RANGE, () -> d.run(0, 0, day, 1));
            Check.refused("unlucky day " + day, Check.RANGE, () -> d.unlucky(0, 0, 1, day, 1));
        }
        for (int seed : new int[] {MIN, -1, 0, 1, MAX}) {
            Check.due("day 0 of seed " + seed, 0, () -> d.run(0, seed, 0, 1));
            Check.due("day 999 of seed " + seed, 0, () -> d.run(0, seed, 999, 1));
        }
    }

    private static void calls() {
        Check.sentence("and so many CALLS (0 .. 60).");
        DaySimulate d = Towns.one(0);
        d.change(1, 0, -1);
        for (int calls : new int[] {-1, 61, MIN, MAX}) {
            Check.refused(calls + " calls", Check.RANGE, () -> d.run(1, 0, 0, calls));
        }
        Check.due("60 calls", 60, () -> d.run(1, 0, 0, 60));
        Check.due("the last of them has a minute", 1186, () -> {
            d.run(1, -1, 0, 60);
            return d.call(59, 0);
        });
        Check.due("no calls", 0, () -> d.run(1, 0, 0, 0));
        Check.refused("the first of none", Check.UNKNOWN, () -> d.call(0, 0));
    }

    /** Ten areas of weight 50, and a unit that has no way to any of them. */
    private static DaySimulate tenAreas() {
        DaySimulate d = new DaySimulate();
        d.station(0, 0);
        for (int a = 0; a < 10; a++) {
            d.area(0, 0, 50);
        }
        d.unit(0);
        return d;
    }

    private static void drawn(DaySimulate d, int seed, int minute, int rank, int lasts, int area) {
        d.run(0, seed, 0, 1);
        Check.due("minute of seed " + seed, minute, () -> d.call(0, 0));
        Check.due("rank of seed " + seed, rank, () -> d.call(0, 2));
        Check.due("minutes that seed " + seed + " lasts", lasts, () -> d.work(0));
        Check.due("area of seed " + seed, area, () -> d.call(0, 1));
    }

    private static void mix() {
        Check.sentence("MIX of a number v: .. in 32 bits.");
        DaySimulate d = tenAreas();
        // v = 0
        drawn(d, 0, 0, 3, 74, 3);
        // v = 0xFFFFFFFF, so that w = MIX(0)
        drawn(d, 857601445, 735, 0, 10, 5);
        // w = 0xFFFFFFFF, so that u = MIX(0)
        drawn(d, -1339779095, 410, 3, 55, 0);
        // u = 0xFFFFFFFF
        drawn(d, 90003436, 542, 0, 35, 9);
        // the highest bits of v, w and u are all 1
        drawn(d, 9, 945, 3, 50, 9);
        Check.sentence("v = MIX(seed + 1,000,003 times the day + 31 times i)");
        // seed, day, call, and the seed whose day 0 draws the same as its call 0
        int[][] sums = {{MAX, 999, 59, -1148478823}, {MIN, 999, 59, -1148478822}, {MAX, 0, 1, -2147483618},
            {-1, 0, 59, 1828}, {-31, 0, 1, 0}, {-1000003, 1, 0, 0}, {5, 999, 59, 5 + 999002997 + 1829}};
        for (int[] s : sums) {
            d.run(0, s[3], 0, 1);
            int[] want = {d.call(0, 0), d.call(0, 1), d.call(0, 2)};
            d.run(0, s[0], s[1], s[2] + 1);
            for (int what = 0; what < 3; what++) {
                int asked = what;
                Check.due("what " + what + " of seed " + s[0] + ", day " + s[1] + ", call " + s[2], want[what],
                        () -> d.call(s[2], asked));
            }
        }
    }

    private static void minuteRankAndLasts() {
        Check.sentence("its MINUTE (v >>> 4) modulo 1,440, .. its RANK w & 3,"
                + " the minutes it LASTS 10 + ((w >>> 8) modulo 90)");
        DaySimulate d = Towns.one(0);
        int[][] all = {{0, 0, 3, 74}, {496, 1, 3, 55}, {1882, 1438, 2, 82}, {903, 1439, 1, 29}, {1, 1035, 0, 67},
            {2, 1072, 1, 92}, {7, 1356, 2, 91}, {213, 1146, 0, 10}, {25, 115, 3, 99}};
        for (int[] c : all) {
            drawn(d, c[0], c[1], c[2], c[3], 0);
        }
    }

    private static void areaOfACall() {
        Check.sentence("its AREA is the first one up to which (itself with it) the weights sum to more than that.");
        DaySimulate d = tenAreas();
        // the seed, (u >>> 4) modulo 500, and the area
        int[][] all = {{201, 0, 0}, {1057, 49, 0}, {194, 50, 1}, {163, 99, 1}, {267, 100, 2}, {1024, 449, 8},
            {1066, 450, 9}, {183, 499, 9}};
        for (int[] c : all) {
            d.run(0, c[0], 0, 1);
            Check.due("area for " + c[1], c[2], () -> d.call(0, 1));
        }
        DaySimulate single = Towns.one(0);
        single.run(0, 183, 0, 60);
        for (int i = 0; i < 60; i++) {
            int number = i;
            Check.due("the only area, of weight 1", 0, () -> single.call(number, 1));
        }
    }

    /** The delays of the first calls of a day, served by one unit that has no way. */
    private static void delays(int seed, int... want) {
        DaySimulate d = Towns.one(0);
        d.run(0, seed, 0, want.length);
        for (int i = 0; i < want.length; i++) {
            int number = i;
            Check.due("delay of call " + i + " of seed " + seed, want[i], () -> d.call(number, 4));
        }
    }

    private static void minutesPlayed() {
        Check.sentence("A RUN plays minutes 0, 1, .. of a day, as long as calls wait or are to come");
        // (0, 3, 74)
        delays(0, 0);
        // (1439, 3, 31), (0, 0, 79)
        delays(385511, 0, 0);
        // (1393, 3, 50), (1414, 1, 41): the second waits beyond the day's end
        delays(1988, 0, 29);
        DaySimulate d = Towns.one(0);
        d.run(0, 1988, 0, 2);
        Check.due("arrived in the day", 1, () -> d.arrived(1439));
        Check.due("arrived by 1442", 1, () -> d.arrived(1442));
        Check.due("arrived by 1443", 2, () -> d.arrived(1443));
        DaySimulate far = new DaySimulate();
        far.station(0, 0);
        far.area(99, 99, 1);
        far.unit(0);
        far.rules(9, 1000);
        far.run(0, 5, 5, 60);
        for (int i = 0; i < 60; i++) {
            int number = i;
            Check.due("in the longest of runs call " + i + " is served", 0, () -> far.call(number, 3));
        }
    }

    private static void unitsThatAreBack() {
        Check.sentence("in each minute units that are back are free");
        // (1235, 3, 30), (1265, 1, 53): back in the second's minute
        delays(1048, 0, 0);
        // (544, 1, 36), (579, 2, 48): back a minute behind it
        delays(210, 0, 1);
    }

    private static void callsOfThisMinute() {
        Check.sentence("calls of this minute begin to WAIT; then ..");
        // (1175, 2, 52), (1213, 1, 98), (1227, 3, 97): the third begins as the unit is back
        delays(147999, 0, 111, 0);
        // (145, 1, 80), (185, 1, 39), (226, 3, 45): the third begins a minute too late
        delays(203643, 0, 40, 38);
    }

    private static void sendingGoesOn() {
        Check.sentence("as long as some call waits and some unit (not left out) is free");
        // (383, 0, 27), (383, 2, 21)
        DaySimulate d = Towns.one(0);
        d.unit(0);
        d.run(0, 1728, 0, 2);
        Check.due("both are sent in one minute: call 0", 0, () -> d.call(0, 4));
        Check.due("both are sent in one minute: call 1", 0, () -> d.call(1, 4));
        d.change(1, 0, -1);
        d.run(1, 1728, 0, 2);
        Check.due("one is left out, so call 0 waits", 21, () -> d.call(0, 4));
        Check.due("and has the other unit", 1, () -> d.call(0, 3));
        Check.due("call 1 has the other unit too", 1, () -> d.call(1, 3));
        d.unit(0);
        d.run(0, 1728, 0, 2);
        Check.due("a unit too many does nothing", 0, () -> d.work(2));
    }

    private static void whichCall() {
        Check.sentence("the waiting call of the highest rank (then of the earlier minute, then of the lower number)");
        // (383, 0, 27), (383, 2, 21)
        delays(1728, 21, 0);
        // (385, 1, 72), (397, 0, 16), (433, 3, 76)
        delays(854, 0, 136, 24);
        // (686, 1, 92), (730, 1, 27), (698, 1, 68)
        delays(89, 0, 116, 80);
        // (1297, 2, 40), (1297, 2, 85)
        delays(1652, 0, 40);
        // (1121, 1, 78), (1137, 1, 33), (1137, 1, 64)
        delays(57994, 0, 62, 95);
    }

    private static void sent(String what, DaySimulate d, int seed, int... units) {
        d.run(0, seed, 0, units.length);
        for (int i = 0; i < units.length; i++) {
            int number = i;
            Check.due(what + ": unit of call " + i, units[i], () -> d.call(number, 3));
        }
    }

    private static void whichUnit() {
        Check.sentence("gets the free unit with the least way (then the lowest)");
        sent("the highest rank has the nearest", Towns.farAndNear(), 1728, 0, 1);
        sent("the lower number has the nearest", Towns.farAndNear(), 1652, 1, 0);
        DaySimulate d = Towns.one(0);
        d.unit(0);
        sent("the lowest of the same way", d, 1728, 1, 0);
        sent("the lowest of the same way again", d, 1652, 0, 1);
        sent("the nearest is back", Towns.farAndNear(), 1048, 1, 1);
        sent("the nearest is back a minute later", Towns.farAndNear(), 210, 1, 0);
    }

    private static void arrivesAndIsBack() {
        Check.sentence("it ARRIVES the way behind, and is back when it has arrived,"
                + " so many minutes as the call lasts have passed, and the way back.");
        // (385, 1, 72), (397, 0, 16), (433, 3, 76), each with a way of 2
        DaySimulate d = Towns.one(8);
        d.run(0, 854, 0, 3);
        int[] arrivals = {387, 543, 463};
        for (int i = 0; i < 3; i++) {
            int number = i;
            Check.due("arrival of call " + i, arrivals[i], () -> d.call(number, 0) + d.call(number, 4));
        }
        Check.due("all three with the ways there and back", 72 + 16 + 76 + 6 * 2, () -> d.work(0));
        d.rules(2, 10);
        d.run(0, 854, 0, 3);
        Check.due("pace 2 makes both ways longer", 72 + 16 + 76 + 6 * 4, () -> d.work(0));
        Check.due("the next one is sent later", 385 + 72 + 4 * 2 + 4 - 433, () -> d.call(2, 4));
    }

    private static void servesNone(String what, DaySimulate d, int variant) {
        Check.due(what + ": all are late", 60, () -> d.run(variant, 3, 3, 60));
        for (int i = 0; i < 60; i++) {
            int number = i;
            Check.due(what + ": unit of call " + i, -1, () -> d.call(number, 3));
            Check.due(what + ": delay of call " + i, -1, () -> d.call(number, 4));
            Check.due(what + ": why of call " + i, 3, () -> d.call(number, 5));
        }
    }

    private static void variantWithoutUnits() {
        Check.sentence("A variant without units serves none.");
        DaySimulate bare = new DaySimulate();
        bare.area(0, 0, 1);
        servesNone("no stations", bare, 0);
        DaySimulate idle = Towns.stations(6);
        idle.area(0, 0, 1);
        servesNone("no units", idle, 3);
        DaySimulate left = Towns.farAndNear();
        left.change(1, 0, -1);
        servesNone("all left out", left, 1);
        DaySimulate last = Towns.farAndNear();
        last.run(1, 3, 3, 60);
        Check.due("one is not left out", 0, () -> last.call(59, 3));
    }

    private static void delay() {
        Check.sentence("A call's DELAY is its arrival less its minute.");
        DaySimulate d = Towns.one(0);
        d.run(0, 903, 0, 1);
        Check.due("no way, no waiting", 0, () -> d.call(0, 4));
        DaySimulate way = Towns.one(99);
        way.run(0, 903, 0, 1);
        Check.due("the way alone, beyond the day's end", 25, () -> way.call(0, 4));
        // (544, 1, 36), (579, 2, 48)
        way.run(0, 210, 0, 2);
        Check.due("waiting and way", 544 + 25 + 36 + 25 - 579 + 25, () -> way.call(1, 4));
    }

    private static void late() {
        Check.sentence("It is LATE when that is above the MARK .. , or it was never served.");
        DaySimulate d = Towns.one(8);
        int[][] marks = {{0, 1}, {1, 1}, {2, 0}, {3, 0}, {1000, 0}};
        for (int[] m : marks) {
            d.rules(1, m[0]);
            Check.due("a delay of 2 at mark " + m[0], m[1], () -> d.run(0, 0, 0, 1));
        }
        d.change(1, 0, -1);
        Check.due("never served at mark 1000", 1, () -> d.run(1, 0, 0, 1));
        DaySimulate none = Towns.one(0);
        none.rules(1, 0);
        Check.due("no delay at mark 0", 0, () -> none.run(0, 0, 0, 1));
        none.rules(1, 1000);
        Check.due("of 60 calls those above 1000", 23, () -> none.run(0, 1114, 0, 60));
        Check.due("the delay of one", 1000, () -> none.call(23, 4));
        Check.due("is not late", 0, () -> none.call(23, 5));
        Check.due("the delay of another", 1001, () -> none.call(39, 4));
        Check.due("is late", 1, () -> none.call(39, 5));
        none.rules(1, 10);
        Check.due("of 60 calls those above 10", 55, () -> none.run(0, 1114, 0, 60));
    }

    /** The calls not late, of 3, and the hour of most late calls, as the mark goes up and down behind the run. */
    private static void lateByTheMarkOfNow() {
        Check.sentence("It is LATE when that is above the MARK .. ; why it is late (by the mark as it is now)");
        // (385, 1, 72), (397, 0, 16), (433, 3, 76): delays 0, 136, 24
        DaySimulate d = Towns.one(0);
        d.run(0, 854, 0, 3);
        // mark, upper and lower number of the share, worst hour, why of calls 0 to 2
        int[][] marks = {{10, 1, 3, 6, 0, 1, 1}, {23, 1, 3, 6, 0, 1, 1}, {24, 2, 3, 6, 0, 1, 0},
            {135, 2, 3, 6, 0, 1, 0}, {136, 1, 1, -1, 0, 0, 0}, {0, 1, 3, 6, 0, 1, 1}};
        for (int[] m : marks) {
            d.rules(1, m[0]);
            Check.due("upper at mark " + m[0], m[1], () -> d.share(0));
            Check.due("lower at mark " + m[0], m[2], () -> d.share(1));
            Check.due("worst at mark " + m[0], m[3], d::worst);
            for (int i = 0; i < 3; i++) {
                int number = i;
                Check.due("why of call " + i + " at mark " + m[0], m[4 + i], () -> d.call(number, 5));
            }
        }
    }

    private static void mark() {
        Check.sentence("the MARK (0 .. 1,000; 10 at first)");
        Check.due("a way of 10 at first", 0, () -> Towns.one(40).run(0, 0, 0, 1));
        Check.due("a way of 11 at first", 1, () -> Towns.one(41).run(0, 0, 0, 1));
        DaySimulate d = Towns.one(0);
        Check.taken("mark 0", () -> d.rules(1, 0));
        Check.taken("mark 1000", () -> d.rules(1, 1000));
        for (int mark : new int[] {-1, 1001, MIN, MAX}) {
            Check.refused("mark " + mark, Check.RANGE, () -> d.rules(1, mark));
        }
    }

    private static void missedOf(int want, int seed, int calls) {
        DaySimulate d = Towns.one(0);
        d.run(0, seed, 0, calls);
        Check.due("missed by seed " + seed, want, d::missed);
    }

    private static void missed() {
        Check.sentence("MISSED minutes are those from 0 to 1,439 in which, behind all that, no unit is free.");
        // (0, 3, 74)
        missedOf(74, 0, 1);
        // (1438, 2, 82), (1439, 1, 29)
        missedOf(2, 1882, 1);
        missedOf(1, 903, 1);
        // (1360, 1, 79), (1374, 1, 66), (1406, 2, 35) are back in 1439, 1440 and 1441
        missedOf(79, 1317, 1);
        missedOf(66, 7169, 1);
        missedOf(34, 184, 1);
        // (1393, 3, 50), (1414, 1, 41): busy beyond the day's end
        missedOf(47, 1988, 2);
        // (1235, 3, 30), (1265, 1, 53): back and sent again in one minute
        missedOf(83, 1048, 2);
        missedOf(0, 5, 0);
        DaySimulate d = Towns.farAndNear();
        // (383, 0, 27), (383, 2, 21): unit 0 is out for 10 + 27 + 10, unit 1 for 21
        d.run(0, 1728, 0, 2);
        Check.due("as long as both are out", 21, d::missed);
        d.change(1, 0, -1);
        d.run(1, 1728, 0, 2);
        Check.due("all minutes without units", 1440, d::missed);
        d.run(1, 1728, 0, 0);
        Check.due("all minutes without units, without calls too", 1440, d::missed);
        d.run(0, 1728, 0, 0);
        Check.due("none with units, without calls", 0, d::missed);
        // (0, 3, 74)
        DaySimulate single = Towns.one(8);
        single.run(0, 0, 0, 1);
        Check.due("behind the last call sent too, with both ways", 2 + 74 + 2, single::missed);
    }

    private static void work() {
        Check.sentence("WORK of a unit are its minutes from going out to being back, added up.");
        DaySimulate d = Towns.farAndNear();
        d.run(0, 1728, 0, 2);
        Check.due("of unit 0", 10 + 27 + 10, () -> d.work(0));
        Check.due("of unit 1", 21, () -> d.work(1));
        d.run(1, 1728, 0, 2);
        Check.due("two calls of unit 0", 10 + 27 + 10 + 10 + 21 + 10, () -> d.work(0));
        Check.due("a left out unit has none", 0, () -> d.work(1));
        DaySimulate end = Towns.one(0);
        // (1393, 3, 50), (1414, 1, 41)
        end.run(0, 1988, 0, 2);
        Check.due("beyond the day's end too", 91, () -> end.work(0));
    }

    private static void theLatestRun() {
        Check.sentence("What is told of THE RUN is of the latest one");
        DaySimulate d = Towns.one(8);
        d.run(0, 7, 3, 60);
        d.run(0, 854, 0, 3);
        DaySimulate fresh = Towns.one(8);
        fresh.run(0, 854, 0, 3);
        Check.same("nothing of an earlier run is left", Portrait.seen(fresh), Portrait.seen(d));
        Check.refused("calls of an earlier run are gone", Check.UNKNOWN, () -> d.call(3, 0));
        String before = Portrait.seen(d);
        d.station(50, 50);
        d.area(50, 50, 50);
        d.change(1, 0, 1);
        d.rules(9, 10);
        Check.same("what comes later leaves the run", before, Portrait.seen(d));
        d.run(0, 1, 1, 0);
        Check.refused("a run without calls is the latest too", Check.NONE, d::mean);
    }

    private static void nothingIsLeft(String behind, DaySimulate d) {
        for (int what = 0; what < 6; what++) {
            int asked = what;
            Check.refused(behind + ": what " + what, Check.UNKNOWN, () -> d.call(0, asked));
        }
        Check.refused(behind + ": share(0)", Check.NONE, () -> d.share(0));
        Check.refused(behind + ": share(1)", Check.NONE, () -> d.share(1));
        Check.refused(behind + ": mean", Check.NONE, d::mean);
        Check.due(behind + ": missed", 0, d::missed);
        Check.due(behind + ": work of 0", 0, () -> d.work(0));
        Check.due(behind + ": work of 1", 0, () -> d.work(1));
        Check.due(behind + ": worst", -1, d::worst);
        Check.due(behind + ": arrived", 0, () -> d.arrived(9999));
    }

    private static void forgottenRun() {
        Check.sentence("unlucky() and compare() make runs of their own, and forget it"
                + " (a run without calls, missed minutes and work is left).");
        for (int v = 0; v < 3; v++) {
            DaySimulate d = Towns.farAndNear();
            d.change(2, 0, -1);
            d.change(2, 1, -1);
            d.run(v, 5, 5, 60);
            d.unlucky(v, 5, 1, 5, 60);
            nothingIsLeft("unlucky of one seed in variant " + v, d);
            d.run(v, 5, 5, 60);
            d.unlucky(v, 5, 8, 5, 0);
            nothingIsLeft("unlucky without calls in variant " + v, d);
            d.run(v, 5, 5, 60);
            d.compare(v, v, 5, 5, 1, 0);
            nothingIsLeft("compare of one day in variant " + v, d);
            d.run(v, 5, 5, 60);
            d.compare(1, v, 5, 980, 20, 3);
            nothingIsLeft("compare of 20 days with variant " + v, d);
        }
    }
}
