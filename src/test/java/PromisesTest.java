/**
 * Each promise of the document by itself. The draws that stand in comments, as (minute, rank,
 * lasts), were worked out from the document's MIX apart from the class.
 */
public final class PromisesTest {
    private static final int MIN = Integer.MIN_VALUE;
    private static final int MAX = Integer.MAX_VALUE;

    public static void main(String[] args) {
        promise1();
        promise2();
        promise3();
        promise4();
        promise4InVariants();
        promise5();
        promise6();
        promise7Refusals();
        promise7Order();
        promise7Units();
        promise7Draws();
        promise8();
        promise9();
        promise10();
        promise11();
        promise12();
        promise13();
        promise14();
        promise15();
        promise15Refusals();
        promise16();
        promise16Refusals();
        Check.finish();
    }

    private static void noRun(String when, DaySimulate d) {
        Check.due(when + " missed", 0, d::missed);
        Check.due(when + " worst", -1, d::worst);
        Check.due(when + " arrived(0)", 0, () -> d.arrived(0));
        Check.due(when + " arrived(9999)", 0, () -> d.arrived(9999));
        Check.refused(when + " mean", Check.NONE, d::mean);
        Check.refused(when + " share(0)", Check.NONE, () -> d.share(0));
        Check.refused(when + " share(1)", Check.NONE, () -> d.share(1));
        Check.refused(when + " share(2)", Check.UNKNOWN, () -> d.share(2));
        Check.refused(when + " call(0, 0)", Check.UNKNOWN, () -> d.call(0, 0));
    }

    private static void promise1() {
        DaySimulate d = new DaySimulate();
        noRun("new", d);
        Check.refused("new work(0)", Check.UNKNOWN, () -> d.work(0));
        Check.refused("new unit(0)", Check.UNKNOWN, () -> d.unit(0));
        Check.refused("new run with calls", Check.STATE, () -> d.run(0, 1, 1, 1));
        Check.due("new run without calls", 0, () -> d.run(0, 1, 1, 0));
        Check.due("way of 10 at the first pace and mark", 0, () -> Towns.one(40).run(0, 0, 0, 1));
        Check.due("way of 11 at the first pace and mark", 1, () -> Towns.one(41).run(0, 0, 0, 1));
    }

    private static void promise2() {
        DaySimulate d = new DaySimulate();
        int[][] wrong = {{-1, 0}, {100, 0}, {0, -1}, {0, 100}, {MIN, 5}, {5, MAX}};
        for (int[] p : wrong) {
            Check.refused("station(" + p[0] + ", " + p[1] + ")", Check.RANGE, () -> d.station(p[0], p[1]));
        }
        int[][] right = {{0, 0}, {99, 99}, {0, 99}, {99, 0}, {50, 50}, {50, 50}};
        for (int k = 0; k < 6; k++) {
            int[] p = right[k];
            Check.due("station " + k, k, () -> d.station(p[0], p[1]));
        }
        Check.refused("station 6", Check.ROOM, () -> d.station(1, 1));
        Check.refused("station 6 at no place", Check.RANGE, () -> d.station(100, 1));
        Check.due("unit at station 5", 0, () -> d.unit(5));
        Check.refused("unit at station 6", Check.UNKNOWN, () -> d.unit(6));
    }

    private static void promise3() {
        DaySimulate d = new DaySimulate();
        int[][] wrong = {{-1, 0, 1}, {100, 0, 1}, {0, -1, 1}, {0, 100, 1}, {0, 0, 0}, {0, 0, 51}, {0, 0, -1},
            {0, 0, MIN}, {0, 0, MAX}};
        for (int[] p : wrong) {
            Check.refused("area " + p[0] + " " + p[1] + " " + p[2], Check.RANGE, () -> d.area(p[0], p[1], p[2]));
        }
        Check.refused("still no areas", Check.STATE, () -> d.run(0, 0, 0, 1));
        for (int k = 0; k < 10; k++) {
            int number = k;
            Check.due("area " + k, k, () -> d.area(number * 11, 99, number % 2 == 0 ? 1 : 50));
        }
        Check.refused("area 10", Check.ROOM, () -> d.area(1, 1, 1));
        Check.refused("area 10 of no weight", Check.RANGE, () -> d.area(1, 1, 0));
    }

    private static void promise4() {
        DaySimulate d = Towns.stations(4);
        Check.refused("unit(-1)", Check.UNKNOWN, () -> d.unit(-1));
        Check.refused("unit(4)", Check.UNKNOWN, () -> d.unit(4));
        Check.refused("unit(MAX)", Check.UNKNOWN, () -> d.unit(MAX));
        for (int k = 0; k < 12; k++) {
            int number = k;
            Check.due("unit " + k, k, () -> d.unit(number / 4));
            if (k % 4 == 3) {
                Check.refused("a fifth unit at " + k / 4, Check.STATE, () -> d.unit(number / 4));
            }
        }
        Check.refused("a 13th unit", Check.ROOM, () -> d.unit(3));
        Check.refused("a 13th unit at a full station", Check.STATE, () -> d.unit(0));
        Check.refused("a 13th unit at no station", Check.UNKNOWN, () -> d.unit(4));
        Check.refused("work of a 13th unit", Check.UNKNOWN, () -> d.work(12));
        Check.due("work of the 12th", 0, () -> d.work(11));
    }

    private static void promise4InVariants() {
        for (int v = 1; v <= 3; v++) {
            int variant = v;
            DaySimulate d = Towns.stations(2);
            Towns.units(d, 0, 3);
            Towns.units(d, 1, 1);
            d.change(variant, 3, 0);
            Check.refused("4 there in variant " + v, Check.STATE, () -> d.unit(0));
            d.change(variant, 3, -1);
            Check.due("3 there again in variant " + v, 4, () -> d.unit(0));
        }
        DaySimulate d = Towns.stations(2);
        Towns.units(d, 0, 4);
        for (int v = 1; v <= 3; v++) {
            d.change(v, 3, 1);
        }
        Check.refused("4 there in variant 0 alone", Check.STATE, () -> d.unit(0));
    }

    private static void promise5() {
        DaySimulate d = Towns.stations(2);
        Towns.units(d, 0, 4);
        Towns.units(d, 1, 2);
        int[][] wrong = {{0, 0, 0}, {4, 0, 0}, {-1, 0, 0}, {1, -1, 0}, {1, 6, 0}, {1, 0, -2}, {1, 0, 2}, {MIN, 0, 0},
            {1, MAX, 0}, {1, 0, MAX}, {1, 0, MIN}, {0, 4, 0}};
        for (int[] c : wrong) {
            Check.refused("change " + c[0] + " " + c[1] + " " + c[2], Check.UNKNOWN, () -> d.change(c[0], c[1], c[2]));
        }
        Check.refused("4 others there", Check.STATE, () -> d.change(1, 4, 0));
        d.change(1, 0, 0);
        d.change(1, 0, -1);
        d.change(1, 4, 0);
        Check.refused("4 others there by a change", Check.STATE, () -> d.change(1, 0, 0));
        Check.refused("other variants are not changed", Check.STATE, () -> d.change(2, 4, 0));
        d.area(0, 0, 1);
        Check.due("run of variant 1", 0, () -> d.run(1, 0, 0, 1));
        Check.due("unit 0 is left out", 1, () -> d.call(0, 3));
        Check.due("run of variant 0", 0, () -> d.run(0, 0, 0, 1));
        Check.due("unit 0 is there", 0, () -> d.call(0, 3));
        for (int u = 0; u < 6; u++) {
            d.change(3, u, -1);
        }
        Check.due("run of variant 3", 1, () -> d.run(3, 0, 0, 1));
        d.change(3, 5, 0);
        Check.due("run of variant 3 with one unit again", 0, () -> d.run(3, 0, 0, 1));
        Check.due("that unit", 5, () -> d.call(0, 3));
        d.change(3, 5, 1);
        Check.due("a later change leaves the run", 0, () -> d.call(0, 4));
    }

    private static void promise6() {
        DaySimulate d = Towns.one(9);
        int[][] wrong = {{0, 0}, {10, 0}, {-1, 0}, {1, -1}, {1, 1001}, {MIN, 5}, {5, MAX}, {MAX, 5}, {5, MIN}};
        d.rules(9, 1000);
        for (int[] r : wrong) {
            Check.refused("rules(" + r[0] + ", " + r[1] + ")", Check.RANGE, () -> d.rules(r[0], r[1]));
        }
        d.run(0, 0, 0, 1);
        Check.due("way of 9 places at pace 9, 81 over 4 rounded up", 21, () -> d.call(0, 4));
        d.rules(4, 0);
        Check.due("pace 4 makes no change in the run", 21, () -> d.call(0, 4));
        Check.due("late at mark 0", 1, () -> d.run(0, 0, 0, 1));
        Check.due("way of 9 places at pace 4", 9, () -> d.call(0, 4));
        d.rules(4, 9);
        Check.due("at the mark is not late", 0, () -> d.run(0, 0, 0, 1));
        d.rules(4, 8);
        Check.due("above the mark is late", 1, () -> d.run(0, 0, 0, 1));
        d.rules(1, 3);
        Check.due("9 over 4 rounded up", 0, () -> d.run(0, 0, 0, 1));
        Check.due("is 3", 3, () -> d.call(0, 4));
        d.rules(1, 0);
        DaySimulate none = Towns.one(0);
        none.rules(9, 0);
        Check.due("no way takes no minute", 0, () -> none.run(0, 0, 0, 1));
    }

    private static void promise7Refusals() {
        DaySimulate d = Towns.one(0);
        d.run(0, 0, 0, 1);
        Check.refused("variant -1", Check.UNKNOWN, () -> d.run(-1, 0, 0, 0));
        Check.refused("variant 4", Check.UNKNOWN, () -> d.run(4, 0, 1000, 61));
        Check.refused("day -1", Check.RANGE, () -> d.run(0, 0, -1, 0));
        Check.refused("day 1000", Check.RANGE, () -> d.run(0, 0, 1000, 0));
        Check.refused("calls -1", Check.RANGE, () -> d.run(0, 0, 0, -1));
        Check.refused("calls 61", Check.RANGE, () -> d.run(0, 0, 0, 61));
        Check.due("what is refused leaves the run", 74, () -> d.work(0));
        DaySimulate bare = new DaySimulate();
        Check.refused("no areas, no such day", Check.RANGE, () -> bare.run(3, 0, 1000, 1));
        Check.refused("no areas, no such variant", Check.UNKNOWN, () -> bare.run(4, 0, 0, 1));
        Check.refused("no areas", Check.STATE, () -> bare.run(3, 0, 999, 60));
        Check.due("no areas, no calls", 0, () -> bare.run(3, 0, 999, 0));
        DaySimulate noUnits = new DaySimulate();
        noUnits.area(1, 1, 1);
        Check.due("no units, no stations", 60, () -> noUnits.run(0, 0, 0, 60));
        Check.due("run of no calls behind it", 0, () -> noUnits.run(0, 0, 0, 0));
        Check.refused("has no calls", Check.UNKNOWN, () -> noUnits.call(0, 0));
    }

    private static void delays(String what, int seed, int... want) {
        DaySimulate d = Towns.one(0);
        d.run(0, seed, 0, want.length);
        for (int i = 0; i < want.length; i++) {
            int number = i;
            Check.due(what + ": delay of call " + i, want[i], () -> d.call(number, 4));
        }
    }

    private static void promise7Order() {
        // (385, 1, 72), (397, 0, 16), (433, 3, 76)
        delays("the highest rank is first", 854, 0, 136, 24);
        // (686, 1, 92), (730, 1, 27), (698, 1, 68)
        delays("then the earlier minute", 89, 0, 116, 80);
        // (1121, 1, 78), (1137, 1, 33), (1137, 1, 64)
        delays("then the lower number", 57994, 0, 62, 95);
        // (1235, 3, 30), (1265, 1, 53)
        delays("who is back is free in that minute", 1048, 0, 0);
    }

    private static DaySimulate rowOfUnits(int... stationOfUnit) {
        DaySimulate d = Towns.stations(6);
        d.area(20, 3, 1);
        for (int s : stationOfUnit) {
            d.unit(s);
        }
        d.run(0, 0, 0, 1);
        return d;
    }

    private static void promise7Units() {
        Check.due("the nearest unit", 1, () -> rowOfUnits(0, 2, 1).call(0, 3));
        Check.due("the nearest from the other side", 2, () -> rowOfUnits(0, 5, 3).call(0, 3));
        Check.due("the lowest of the same way", 0, () -> rowOfUnits(3, 1, 1).call(0, 3));
        DaySimulate d = new DaySimulate();
        d.station(0, 0);
        d.station(3, 0);
        d.area(4, 0, 1);
        d.unit(0);
        d.unit(1);
        d.run(0, 0, 0, 1);
        Check.due("ways are the same when rounded up", 0, () -> d.call(0, 3));
        d.rules(2, 10);
        d.run(0, 0, 0, 1);
        Check.due("at pace 2 they are not", 1, () -> d.call(0, 3));
    }

    private static int areaOf(int... weights) {
        DaySimulate d = new DaySimulate();
        for (int w : weights) {
            d.area(0, 0, w);
        }
        d.run(0, 0, 0, 1);
        return d.call(0, 1);
    }

    private static void promise7Draws() {
        DaySimulate d = Towns.one(0);
        int[][] draws = {{0, 0, 0, 3, 74}, {1, 0, 1035, 0, 67}, {-3, 0, 394, 0, 75}, {-1, 999, 1139, 3, 62},
            {903, 0, 1439, 1, 29}, {MAX, 0, 477, 3, 29}, {MIN, 0, 105, 3, 28}, {7, 3, 1056, 0, 16}};
        for (int[] draw : draws) {
            String which = "seed " + draw[0] + " day " + draw[1];
            d.run(0, draw[0], draw[1], 1);
            Check.due(which + " minute", draw[2], () -> d.call(0, 0));
            Check.due(which + " rank", draw[3], () -> d.call(0, 2));
            Check.due(which + " lasts", draw[4], () -> d.work(0));
        }
        // of 16, seed 0 draws 6
        Check.due("the area whose weight goes beyond", 0, () -> areaOf(7, 9));
        Check.due("the next one when it ends just there", 1, () -> areaOf(6, 10));
        Check.due("the last one", 2, () -> areaOf(5, 1, 10));
        Check.due("within several", 3, () -> areaOf(1, 1, 3, 4, 7));
        Check.due("the only one", 0, () -> areaOf(16));
    }

    private static void promise8() {
        // (385, 1, 72), (397, 0, 16), (433, 3, 76)
        DaySimulate d = Towns.one(8);
        d.run(0, 854, 0, 3);
        int[][] want = {{385, 0, 1, 0, 2, 0}, {397, 0, 0, 0, 146, 1}, {433, 0, 3, 0, 30, 1}};
        for (int i = 0; i < 3; i++) {
            for (int what = 0; what < 6; what++) {
                int a = i;
                int b = what;
                Check.due("call(" + i + ", " + what + ")", want[i][what], () -> d.call(a, b));
            }
        }
        int[][] wrong = {{-1, 0}, {3, 0}, {0, -1}, {0, 6}, {MAX, 5}, {MIN, 5}, {0, MAX}, {0, MIN}, {3, 6}};
        for (int[] w : wrong) {
            Check.refused("call(" + w[0] + ", " + w[1] + ")", Check.UNKNOWN, () -> d.call(w[0], w[1]));
        }
        d.rules(9, 30);
        Check.due("in time by a later mark", 0, () -> d.call(2, 5));
        Check.due("still late by a later mark", 1, () -> d.call(1, 5));
        d.rules(1, 1);
        Check.due("the way alone is above a later mark", 2, () -> d.call(0, 5));
        Check.due("it is ahead of the waiting", 2, () -> d.call(1, 5));
        d.rules(9, 2);
        Check.due("the way at the mark is not above it", 0, () -> d.call(0, 5));
        Check.due("so it was the waiting", 1, () -> d.call(1, 5));
        d.change(1, 0, -1);
        d.rules(1, 1000);
        d.run(1, 854, 0, 3);
        Check.due("never served: unit", -1, () -> d.call(1, 3));
        Check.due("never served: delay", -1, () -> d.call(1, 4));
        Check.due("never served: why", 3, () -> d.call(1, 5));
        Check.due("never served: rank", 3, () -> d.call(2, 2));
    }

    private static void promise9() {
        DaySimulate d = Towns.one(0);
        d.run(0, 854, 0, 3);
        Check.due("one of three in time", 1, () -> d.share(0));
        Check.due("of three", 3, () -> d.share(1));
        d.rules(1, 24);
        Check.due("two of three by a later mark", 2, () -> d.share(0));
        d.rules(1, 136);
        Check.due("all in time", 1, () -> d.share(0));
        Check.due("over one", 1, () -> d.share(1));
        Check.refused("share(-1)", Check.UNKNOWN, () -> d.share(-1));
        Check.refused("share(2)", Check.UNKNOWN, () -> d.share(2));
        d.change(1, 0, -1);
        d.run(1, 854, 0, 3);
        Check.due("none in time", 0, () -> d.share(0));
        Check.due("none over one", 1, () -> d.share(1));
        d.rules(1, 10);
        // 20 calls, all served one behind the other
        int late = d.run(0, 7, 3, 20);
        Check.due("share times calls is what is in time", (20 - late) * (long) d.share(1), () -> 20L * d.share(0));
        d.run(0, 854, 0, 0);
        Check.refused("share of no calls", Check.NONE, () -> d.share(0));
        Check.refused("no such what is ahead of no calls", Check.UNKNOWN, () -> d.share(2));
    }

    private static void promise10() {
        DaySimulate d = Towns.one(0);
        d.run(0, 854, 0, 3);
        Check.due("160 over 3", 53333, d::mean);
        d.run(0, 89, 0, 3);
        Check.due("196 over 3", 65333, d::mean);
        d.run(0, 57994, 0, 2);
        Check.due("62 over 2", 31000, d::mean);
        d.run(0, 0, 0, 1);
        Check.due("no delay", 0, d::mean);
        d.run(0, 0, 0, 0);
        Check.refused("no calls", Check.NONE, d::mean);
        d.change(1, 0, -1);
        d.run(1, 0, 0, 60);
        Check.refused("none served", Check.NONE, d::mean);
        DaySimulate far = new DaySimulate();
        far.station(0, 0);
        far.area(99, 99, 1);
        far.unit(0);
        far.rules(9, 10);
        far.run(0, 1, 1, 60);
        long sum = 0;
        for (int i = 0; i < 60; i++) {
            sum += far.call(i, 4);
        }
        Check.due("the longest delays", sum * 1000 / 60, far::mean);
    }

    private static void missed(String what, int want, int seed, int calls) {
        DaySimulate d = Towns.one(0);
        d.run(0, seed, 0, calls);
        Check.due("missed: " + what, want, d::missed);
    }

    private static void promise11() {
        missed("from minute 0 on", 74, 0, 1);
        missed("minute 1439 alone", 1, 903, 1);
        missed("behind the last call too", 83, 1048, 2);
        missed("one call behind the other", 164, 854, 3);
        missed("no calls", 0, 0, 0);
        DaySimulate d = Towns.one(0);
        d.change(1, 0, -1);
        d.run(1, 0, 0, 5);
        Check.due("no units: all minutes", 1440, d::missed);
        d.run(1, 0, 0, 0);
        Check.due("no units and no calls: all minutes", 1440, d::missed);
        d.unit(0);
        d.run(0, 854, 0, 3);
        // unit 0 is out 385 .. 456, unit 1 397 .. 412 and 433 .. 508
        Check.due("both units out", 16 + 24, d::missed);
        d.run(1, 854, 0, 3);
        Check.due("a left out unit is not free", 164, d::missed);
    }

    private static void promise12() {
        DaySimulate d = Towns.one(8);
        d.unit(0);
        d.run(0, 854, 0, 3);
        Check.due("unit 0 has call 0", 72 + 4, () -> d.work(0));
        Check.due("unit 1 has the others", 16 + 4 + 76 + 4, () -> d.work(1));
        Check.refused("unit -1", Check.UNKNOWN, () -> d.work(-1));
        Check.refused("unit 2", Check.UNKNOWN, () -> d.work(2));
        Check.refused("unit MAX", Check.UNKNOWN, () -> d.work(MAX));
        d.unit(0);
        Check.due("a unit that came later", 0, () -> d.work(2));
        d.run(0, 903, 0, 1);
        Check.due("beyond the day's end", 29 + 4, () -> d.work(0));
        Check.due("of the latest run alone", 0, () -> d.work(1));
        d.run(0, 903, 0, 0);
        Check.due("no calls", 0, () -> d.work(0));
    }

    private static void promise13() {
        DaySimulate none = new DaySimulate();
        none.area(0, 0, 1);
        // hours 8, 22, 22
        none.run(0, 77, 0, 3);
        Check.due("the hour of most", 22, none::worst);
        // hours 17, 13, 19
        none.run(0, 1, 0, 3);
        Check.due("the lowest of the same", 13, none::worst);
        none.run(0, 0, 0, 1);
        Check.due("hour 0", 0, none::worst);
        none.run(0, 903, 0, 1);
        Check.due("hour 23", 23, none::worst);
        DaySimulate d = Towns.one(0);
        d.run(0, 1048, 0, 2);
        Check.due("none late", -1, d::worst);
        // delays 0, 136, 24 in hours 6, 6, 7
        d.run(0, 854, 0, 3);
        d.rules(1, 10);
        Check.due("one in 6, one in 7", 6, d::worst);
        d.rules(1, 136);
        Check.due("none late by a later mark", -1, d::worst);
    }

    private static void promise14() {
        DaySimulate d = Towns.one(8);
        d.run(0, 854, 0, 3);
        // out at 385, 461, 541; there two minutes later
        int[][] want = {{0, 0}, {386, 0}, {387, 1}, {462, 1}, {463, 2}, {542, 2}, {543, 3}, {9999, 3}};
        for (int[] w : want) {
            Check.due("arrived(" + w[0] + ")", w[1], () -> d.arrived(w[0]));
        }
        Check.refused("arrived(-1)", Check.RANGE, () -> d.arrived(-1));
        Check.refused("arrived(10000)", Check.RANGE, () -> d.arrived(10000));
        Check.refused("arrived(MIN)", Check.RANGE, () -> d.arrived(MIN));
        d.change(1, 0, -1);
        d.run(1, 854, 0, 3);
        Check.due("never served, never there", 0, () -> d.arrived(9999));
    }

    /** Two areas of the same weight, with the unit at one: calls from the other are late. */
    private static DaySimulate twoAreas(boolean lateIsSecond) {
        DaySimulate d = new DaySimulate();
        d.station(0, 0);
        d.area(lateIsSecond ? 0 : 99, 0, 1);
        d.area(lateIsSecond ? 99 : 0, 0, 1);
        d.unit(0);
        return d;
    }

    private static void promise15() {
        // seeds -3 .. 5 draw areas 1, 1, 0, 0, 0, 1, 0, 0, 0
        DaySimulate d = twoAreas(true);
        Check.due("the only late one", 2, () -> d.unlucky(0, 0, 3, 0, 1));
        Check.due("it is not among them", 0, () -> d.unlucky(0, 0, 2, 0, 1));
        Check.due("the first of the same", -3, () -> d.unlucky(0, -3, 8, 0, 1));
        Check.due("over 0", 2, () -> d.unlucky(0, -1, 8, 0, 1));
        Check.due("one seed", 5, () -> d.unlucky(0, 5, 1, 0, 1));
        Check.due("no calls", 4, () -> d.unlucky(0, 4, 8, 0, 0));
        // MAX draws area 1, MIN area 0
        Check.due("in 32 bits", MIN, () -> twoAreas(false).unlucky(0, MAX, 2, 0, 1));
        d.change(1, 0, -1);
        Check.due("all late in a variant without units", 1, () -> d.unlucky(1, 1, 3, 0, 1));
        d.run(0, 2, 0, 1);
        d.unlucky(0, 0, 3, 0, 1);
        noRun("behind unlucky", d);
        Check.due("behind unlucky work(0)", 0, () -> d.work(0));
    }

    private static void promise15Refusals() {
        DaySimulate d = Towns.one(0);
        d.run(0, 0, 0, 1);
        int[][] unknown = {{-1, 0, 1, 0, 1}, {4, 0, 1, 0, 1}, {4, 0, 9, 0, 1}};
        for (int[] u : unknown) {
            Check.refused("unlucky variant " + u[0], Check.UNKNOWN, () -> d.unlucky(u[0], u[1], u[2], u[3], u[4]));
        }
        int[][] range = {{0, 0, 0, 0, 1}, {0, 0, 9, 0, 1}, {0, 0, 1, -1, 1}, {0, 0, 1, 1000, 1}, {0, 0, 1, 0, -1},
            {0, 0, 1, 0, 61}, {0, 0, MIN, 0, 1}, {0, 0, MAX, 0, 1}};
        for (int[] r : range) {
            Check.refused("unlucky of " + r[2] + ", " + r[3] + ", " + r[4], Check.RANGE,
                    () -> d.unlucky(r[0], r[1], r[2], r[3], r[4]));
        }
        Check.due("what is refused leaves the run", 74, () -> d.work(0));
        DaySimulate bare = new DaySimulate();
        Check.refused("unlucky without areas", Check.STATE, () -> bare.unlucky(0, 0, 1, 0, 1));
        Check.refused("unlucky without areas, range first", Check.RANGE, () -> bare.unlucky(0, 0, 9, 0, 1));
        Check.due("unlucky without areas and calls", 9, () -> bare.unlucky(0, 9, 8, 999, 0));
    }

    private static void compared(DaySimulate d, int[] asked, int... want) {
        for (int k = 0; k < 4; k++) {
            int what = k;
            Check.due("compare(" + asked[0] + ", " + asked[1] + ", 5, " + asked[2] + ", " + asked[3] + ", " + k + ")",
                    want[k], () -> d.compare(asked[0], asked[1], 5, asked[2], asked[3], what));
        }
    }

    private static void promise16() {
        // variant 0 is in time for the first call of a day, variant 1 for none
        DaySimulate d = new DaySimulate();
        d.station(0, 0);
        d.station(99, 99);
        d.area(0, 0, 1);
        d.unit(0);
        d.change(1, 0, 1);
        compared(d, new int[] {0, 1, 0, 20}, 20, 0, 1, 1 << 20);
        compared(d, new int[] {1, 0, 0, 20}, 0, 20, 1, 1);
        compared(d, new int[] {0, 1, 999, 1}, 1, 0, 1, 2);
        compared(d, new int[] {0, 2, 980, 20}, 0, 0, 1, 1);
        compared(d, new int[] {0, 0, 3, 7}, 0, 0, 1, 1);
        compared(d, new int[] {0, 3, 3, 2}, 0, 0, 1, 1);
        d.change(2, 0, -1);
        compared(d, new int[] {1, 2, 3, 2}, 0, 0, 1, 1);
        compared(d, new int[] {0, 2, 3, 3}, 3, 0, 1, 8);
        d.run(0, 0, 0, 1);
        d.compare(0, 1, 5, 0, 1, 0);
        noRun("behind compare", d);
        Check.due("behind compare work(0)", 0, () -> d.work(0));
        mixedTail();
    }

    /** Here some days are better and some worse, counted by runs of each day. */
    private static void mixedTail() {
        DaySimulate d = new DaySimulate();
        d.station(10, 10);
        d.station(80, 70);
        d.area(12, 9, 10);
        d.area(75, 80, 9);
        d.unit(0);
        d.unit(1);
        d.change(1, 1, 0);
        d.change(2, 0, 1);
        int fewer = 0;
        int more = 0;
        for (int day = 40; day < 60; day++) {
            int a = d.run(1, -9, day, 12);
            int b = d.run(2, -9, day, 12);
            fewer += a < b ? 1 : 0;
            more += a > b ? 1 : 0;
        }
        long heads = 0;
        long falls = 1L << (fewer + more);
        for (long fall = 0; fall < falls; fall++) {
            heads += Long.bitCount(fall) >= fewer ? 1 : 0;
        }
        int both = Math.min(fewer, more);
        Check.due("there are days of both kinds", 1, () -> both > 0 ? 1 : 0);
        Check.due("fewer", fewer, () -> d.compare(1, 2, -9, 40, 20, 0));
        Check.due("more", more, () -> d.compare(1, 2, -9, 40, 20, 1));
        int upper = d.compare(1, 2, -9, 40, 20, 2);
        int lower = d.compare(1, 2, -9, 40, 20, 3);
        Check.due("the tail", heads * lower, () -> upper * falls);
        Check.due("the tail is in lowest terms", 1, () -> upper % 2 != 0 || lower == 1 ? 1 : 0);
    }

    private static void promise16Refusals() {
        DaySimulate d = Towns.one(0);
        d.run(0, 0, 0, 1);
        int[][] unknown = {{-1, 0, 0, 1, 0}, {4, 0, 0, 1, 0}, {0, -1, 0, 1, 0}, {0, 4, 0, 1, 0}, {0, 0, 0, 1, -1},
            {0, 0, 0, 1, 4}, {0, 0, 1000, 0, 4}};
        for (int[] u : unknown) {
            Check.refused("compare of " + u[0] + ", " + u[1] + ", " + u[4], Check.UNKNOWN,
                    () -> d.compare(u[0], u[1], 0, u[2], u[3], u[4]));
        }
        int[][] range = {{0, 0}, {0, 21}, {-1, 1}, {1000, 1}, {999, 2}, {981, 20}, {MAX, 20}, {MIN, 20}, {0, MIN},
            {0, MAX}, {5, -5}, {1001, -1}};
        for (int[] r : range) {
            Check.refused("compare from " + r[0] + " on " + r[1], Check.RANGE, () -> d.compare(0, 1, 0, r[0], r[1], 0));
        }
        Check.due("what is refused leaves the run", 74, () -> d.work(0));
        DaySimulate bare = new DaySimulate();
        Check.refused("compare without areas", Check.STATE, () -> bare.compare(0, 1, 0, 0, 1, 0));
        Check.refused("compare without areas, range first", Check.RANGE, () -> bare.compare(0, 1, 0, 0, 21, 0));
    }
}
