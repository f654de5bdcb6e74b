/**
 * Promises 1 to 16, sentence by sentence: what is too small, too large, empty or full, what wraps
 * around, what is refused. Draws in comments are (minute, rank, lasts), worked out apart.
 */
public final class EdgesTest {
    private static final int MIN = Integer.MIN_VALUE;
    private static final int MAX = Integer.MAX_VALUE;

    public static void main(String[] args) {
        newObject();
        station();
        area();
        unit();
        unitInSomeVariant();
        change();
        changeFull();
        rules();
        run();
        runState();
        callNumbers();
        callWhy();
        share();
        mean();
        missed();
        work();
        worst();
        arrived();
        unlucky();
        unluckyRefused();
        compare();
        compareTail();
        compareRefused();
        Check.finish();
    }

    private static void newObject() {
        Check.sentence("1: No stations, no areas");
        DaySimulate d = new DaySimulate();
        Check.refused("unit at 0", Check.UNKNOWN, () -> d.unit(0));
        Check.refused("change to 0", Check.UNKNOWN, () -> d.change(1, 0, 0));
        Check.refused("leaving out", Check.UNKNOWN, () -> d.change(1, 0, -1));
        Check.refused("run with a call", Check.STATE, () -> d.run(0, 0, 0, 1));
        Check.refused("unlucky with a call", Check.STATE, () -> d.unlucky(0, 0, 1, 0, 1));
        Check.refused("compare", Check.STATE, () -> d.compare(0, 0, 0, 0, 1, 0));
        Check.sentence("1: a run of no calls, missed minutes, work.");
        Check.refused("call", Check.UNKNOWN, () -> d.call(0, 0));
        Check.refused("share", Check.NONE, () -> d.share(0));
        Check.refused("mean", Check.NONE, d::mean);
        Check.due("missed", 0, d::missed);
        Check.due("worst", -1, d::worst);
        Check.due("arrived", 0, () -> d.arrived(9999));
        Check.refused("work of no unit", Check.UNKNOWN, () -> d.work(0));
        d.station(0, 0);
        d.unit(0);
        Check.due("work of the first unit", 0, () -> d.work(0));
        Check.due("missed with a unit", 0, d::missed);
        DaySimulate other = new DaySimulate();
        Check.due("another object has a first station", 0, () -> other.station(0, 0));
        Check.refused("and no unit", Check.UNKNOWN, () -> other.work(0));
    }

    private static void station() {
        Check.sentence("2: One more station: its number. Range: the place; no room: there are 6.");
        DaySimulate d = new DaySimulate();
        for (int k = 0; k < 6; k++) {
            Check.refused("x 100", Check.RANGE, () -> d.station(100, 0));
            Check.refused("y -1", Check.RANGE, () -> d.station(0, -1));
            Check.due("a refused one takes no number", k, () -> d.station(99, 99));
        }
        Check.refused("the 7th", Check.ROOM, () -> d.station(0, 0));
        Check.refused("the 7th at x -1", Check.RANGE, () -> d.station(-1, 0));
        Check.refused("the 7th at y 100", Check.RANGE, () -> d.station(0, 100));
    }

    private static void area() {
        Check.sentence("3: One more area: its number. Range: the place, the weight; no room: there are 10.");
        DaySimulate d = new DaySimulate();
        for (int k = 0; k < 10; k++) {
            Check.refused("x -1", Check.RANGE, () -> d.area(-1, 0, 1));
            Check.refused("y 100", Check.RANGE, () -> d.area(0, 100, 1));
            Check.refused("weight 0", Check.RANGE, () -> d.area(0, 0, 0));
            Check.refused("weight 51", Check.RANGE, () -> d.area(0, 0, 51));
            Check.due("a refused one takes no number", k, () -> d.area(99, 0, 1));
        }
        Check.refused("the 11th", Check.ROOM, () -> d.area(0, 0, 1));
        Check.refused("the 11th at x 100", Check.RANGE, () -> d.area(100, 0, 1));
        Check.refused("the 11th of weight 0", Check.RANGE, () -> d.area(0, 0, 0));
    }

    private static void unit() {
        Check.sentence("4: One more unit: its number. Unknown: no such station");
        DaySimulate d = Towns.stations(2);
        for (int station : new int[] {-1, 2, 5, 6, MIN, MAX}) {
            Check.refused("unit at " + station, Check.UNKNOWN, () -> d.unit(station));
        }
        Check.due("a refused one takes no number", 0, () -> d.unit(1));
        d.area(0, 0, 1);
        for (int v = 0; v < 4; v++) {
            d.run(v, 0, 0, 1);
            Check.due("it is there in variant " + v, 3, () -> d.call(0, 4));
        }
        Check.sentence("4: no room: there are 12.");
        DaySimulate full = Towns.stations(6);
        for (int k = 0; k < 12; k++) {
            int number = k;
            Check.due("unit " + k, k, () -> full.unit(number / 2));
        }
        Check.refused("a 13th", Check.ROOM, () -> full.unit(0));
        full.change(1, 0, -1);
        Check.refused("a left out one makes no room", Check.ROOM, () -> full.unit(0));
        Check.refused("a 13th at no station", Check.UNKNOWN, () -> full.unit(6));
    }

    private static void unitInSomeVariant() {
        Check.sentence("4: state: it has 4 in some variant");
        DaySimulate d = Towns.stations(3);
        Towns.units(d, 0, 4);
        Check.refused("4 in all variants", Check.STATE, () -> d.unit(0));
        for (int v = 1; v < 4; v++) {
            d.change(v, 0, -1);
            Check.refused("4 in variant 0 still", Check.STATE, () -> d.unit(0));
        }
        for (int v = 1; v < 4; v++) {
            int variant = v;
            DaySimulate one = Towns.stations(3);
            Towns.units(one, 0, 3);
            Towns.units(one, 1, 2);
            Check.taken("a 4th in variant " + v, () -> one.change(variant, 3, 0));
            Check.refused("4 in variant " + v + " alone", Check.STATE, () -> one.unit(0));
            Check.due("elsewhere there is room", 5, () -> one.unit(1));
            one.change(variant, 4, 2);
            one.change(variant, 3, 2);
            Check.due("3 in all variants again", 6, () -> one.unit(0));
            Check.refused("now 4 in all of them", Check.STATE, () -> one.unit(0));
        }
    }

    private static void change() {
        Check.sentence("5: A variant (1 .. 3) has a unit at a station, or leaves it out (-1)."
                + " Unknown: no such variant, unit or station");
        DaySimulate d = Towns.ends();
        for (int variant : new int[] {0, 4, -1, MIN, MAX}) {
            Check.refused("variant " + variant, Check.UNKNOWN, () -> d.change(variant, 0, 0));
            Check.refused("leaving out in variant " + variant, Check.UNKNOWN, () -> d.change(variant, 0, -1));
        }
        for (int unit : new int[] {-1, 1, 12, MIN, MAX}) {
            Check.refused("unit " + unit, Check.UNKNOWN, () -> d.change(1, unit, 0));
            Check.refused("leaving out unit " + unit, Check.UNKNOWN, () -> d.change(1, unit, -1));
        }
        for (int station : new int[] {-2, 2, 6, MIN, MAX}) {
            Check.refused("station " + station, Check.UNKNOWN, () -> d.change(1, 0, station));
        }
        for (int v = 1; v < 4; v++) {
            int variant = v;
            Check.taken("left out in " + v, () -> d.change(variant, 0, -1));
            Check.taken("left out twice in " + v, () -> d.change(variant, 0, -1));
            Check.due("none is sent in " + v, 1, () -> d.run(variant, 0, 0, 1));
            Check.taken("at the other end in " + v, () -> d.change(variant, 0, 1));
            d.run(variant, 0, 0, 1);
            Check.due("it comes from there in " + v, 25, () -> d.call(0, 4));
            Check.taken("at its own station in " + v, () -> d.change(variant, 0, 0));
            Check.due("it comes from there in " + v, 0, () -> d.run(variant, 0, 0, 1));
        }
    }

    private static void changeFull() {
        Check.sentence("5: state: that station has 4 others there.");
        DaySimulate d = Towns.stations(2);
        Towns.units(d, 0, 4);
        Towns.units(d, 1, 4);
        for (int v = 1; v < 4; v++) {
            int variant = v;
            Check.refused("4 others in " + v, Check.STATE, () -> d.change(variant, 4, 0));
            Check.taken("it is one of the 4 in " + v, () -> d.change(variant, 3, 0));
            Check.taken("one of the 4 is left out in " + v, () -> d.change(variant, 3, -1));
            Check.taken("3 others in " + v, () -> d.change(variant, 4, 0));
            Check.refused("4 others again in " + v, Check.STATE, () -> d.change(variant, 3, 0));
            Check.taken("3 others at the other station in " + v, () -> d.change(variant, 3, 1));
            Check.refused("both are full in " + v, Check.STATE, () -> d.change(variant, 3, 0));
        }
        for (int unit = 0; unit < 8; unit++) {
            int number = unit;
            Check.taken("any number of units may be left out", () -> d.change(2, number, -1));
        }
        Check.refused("left out is no station for a new unit", Check.UNKNOWN, () -> d.unit(-1));
    }

    private static void rules() {
        Check.sentence("6: Pace and mark. Range: they are not so.");
        DaySimulate d = Towns.one(8);
        for (int[] r : new int[][] {{1, 0}, {9, 1000}, {1, 1000}, {9, 0}}) {
            Check.taken("rules " + r[0] + ", " + r[1], () -> d.rules(r[0], r[1]));
        }
        d.rules(2, 4);
        int[][] wrong = {{0, 5}, {10, 5}, {-1, 5}, {MIN, 5}, {MAX, 5}, {5, -1}, {5, 1001}, {5, MIN}, {5, MAX},
            {0, -1}, {10, 1001}};
        for (int[] r : wrong) {
            Check.refused("rules " + r[0] + ", " + r[1], Check.RANGE, () -> d.rules(r[0], r[1]));
            Check.due("the mark is as it was", 0, () -> d.run(0, 0, 0, 1));
            Check.due("the pace is as it was", 4, () -> d.call(0, 4));
        }
        d.rules(2, 3);
        Check.due("the mark is a lower one", 1, () -> d.run(0, 0, 0, 1));
    }

    private static void run() {
        Check.sentence("7: Runs a day: how many calls are late. Unknown: no such variant; range: day, calls");
        DaySimulate d = Towns.one(0);
        for (int variant : new int[] {-1, 4, MIN, MAX}) {
            Check.refused("variant " + variant, Check.UNKNOWN, () -> d.run(variant, 0, 0, 0));
        }
        for (int day : new int[] {-1, 1000, MIN, MAX}) {
            Check.refused("day " + day, Check.RANGE, () -> d.run(0, 0, day, 0));
        }
        for (int calls : new int[] {-1, 61, MIN, MAX}) {
            Check.refused(calls + " calls", Check.RANGE, () -> d.run(0, 0, 0, calls));
        }
        for (int v = 0; v < 4; v++) {
            int variant = v;
            Check.due("no calls in variant " + v, 0, () -> d.run(variant, MIN, 999, 0));
            Check.due("a call in variant " + v, 0, () -> d.run(variant, MAX, 0, 1));
            // delays of 60 calls of seed 1114 with one unit: 55 above 10
            Check.due("60 calls in variant " + v, 55, () -> d.run(variant, 1114, 0, 60));
        }
    }

    private static void runState() {
        Check.sentence("7: state: there are calls, but no areas.");
        DaySimulate d = Towns.stations(1);
        d.unit(0);
        Check.refused("a call", Check.STATE, () -> d.run(0, 0, 0, 1));
        Check.refused("60 calls", Check.STATE, () -> d.run(3, 0, 999, 60));
        Check.due("no calls", 0, () -> d.run(3, 0, 999, 0));
        d.area(0, 0, 1);
        Check.due("an area", 0, () -> d.run(0, 0, 0, 1));
    }

    private static void callNumbers() {
        Check.sentence("8: Of call i of the run .. Unknown: it has none such, or no such what.");
        DaySimulate d = Towns.one(0);
        d.run(0, -1, 0, 60);
        Check.due("the last of 60", 1186, () -> d.call(59, 0));
        for (int i : new int[] {-1, 60, MIN, MAX}) {
            Check.refused("call " + i, Check.UNKNOWN, () -> d.call(i, 0));
        }
        for (int what : new int[] {-1, 6, MIN, MAX}) {
            Check.refused("what " + what, Check.UNKNOWN, () -> d.call(0, what));
        }
        d.run(0, -1, 0, 1);
        Check.due("the only one", 0, () -> d.call(0, 1));
        Check.refused("one behind the only one", Check.UNKNOWN, () -> d.call(1, 0));
        d.run(0, -1, 0, 0);
        Check.refused("one of none", Check.UNKNOWN, () -> d.call(0, 0));
    }

    private static void callWhy() {
        Check.sentence("8: 3 its unit (-1: never served), 4 its delay (-1 likewise),"
                + " 5 why it is late (by the mark as it is now): 0 .. 3");
        // (544, 1, 36), (579, 2, 48) with a way of 2: delays 2 and 544 + 40 - 579 + 2 = 7
        DaySimulate d = Towns.one(8);
        d.run(0, 210, 0, 2);
        // the mark, then why of call 0 and of call 1
        int[][] marks = {{0, 2, 2}, {1, 2, 2}, {2, 0, 1}, {3, 0, 1}, {6, 0, 1}, {7, 0, 0}, {1000, 0, 0}};
        for (int[] m : marks) {
            d.rules(9, m[0]);
            Check.due("why of call 0 at mark " + m[0], m[1], () -> d.call(0, 5));
            Check.due("why of call 1 at mark " + m[0], m[2], () -> d.call(1, 5));
            Check.due("delay of call 1 at mark " + m[0], 7, () -> d.call(1, 4));
        }
        d.change(1, 0, -1);
        d.rules(1, 1000);
        d.run(1, 210, 0, 2);
        Check.due("never served: unit", -1, () -> d.call(0, 3));
        Check.due("never served: delay", -1, () -> d.call(0, 4));
        Check.due("never served: why, at the highest mark", 3, () -> d.call(0, 5));
        d.rules(1, 0);
        Check.due("never served: why, at the lowest mark", 3, () -> d.call(0, 5));
        Check.due("never served: minute", 579, () -> d.call(1, 0));
    }

    private static void shared(String what, DaySimulate d, int upper, int lower) {
        Check.due(what + ": upper", upper, () -> d.share(0));
        Check.due(what + ": lower", lower, () -> d.share(1));
    }

    private static void share() {
        Check.sentence("9: The share of calls of the run that are not late, in lowest terms");
        DaySimulate d = Towns.one(0);
        // delays 0, 136, 24
        d.run(0, 854, 0, 3);
        shared("1 of 3", d, 1, 3);
        d.rules(1, 1000);
        shared("3 of 3", d, 1, 1);
        d.run(0, 1114, 0, 60);
        shared("37 of 60", d, 37, 60);
        d.rules(1, 10);
        shared("5 of 60", d, 1, 12);
        // (544, 1, 36), (579, 2, 48): delays 0 and 1
        d.rules(1, 0);
        d.run(0, 210, 0, 2);
        shared("1 of 2", d, 1, 2);
        d.change(1, 0, -1);
        d.run(1, 1114, 0, 60);
        shared("0 of 60", d, 0, 1);
        Check.sentence("9: Unknown: no such what; ArithmeticException: it has none.");
        for (int what : new int[] {-1, 2, MIN, MAX}) {
            Check.refused("what " + what, Check.UNKNOWN, () -> d.share(what));
        }
        d.run(0, 0, 0, 0);
        Check.refused("upper of no calls", Check.NONE, () -> d.share(0));
        Check.refused("lower of no calls", Check.NONE, () -> d.share(1));
        for (int what : new int[] {-1, 2, MIN, MAX}) {
            Check.refused("what " + what + " of no calls", Check.UNKNOWN, () -> d.share(what));
        }
    }

    private static void mean() {
        Check.sentence("10: The mean delay of served calls of the run, in thousandths of a minute, rounded down");
        DaySimulate d = Towns.one(0);
        // delays 2, 0, 0
        d.run(0, 17, 0, 3);
        Check.due("2 over 3", 666, d::mean);
        // one delay of 1 among 7 calls
        d.run(0, 66, 0, 7);
        Check.due("1 over 7", 142, d::mean);
        // delays 0 and 62
        d.run(0, 57994, 0, 2);
        Check.due("62 over 2", 31000, d::mean);
        d.run(0, 1114, 0, 60);
        Check.due("54634 over 60", 910566, d::mean);
        d.run(0, 0, 0, 1);
        Check.due("0 over 1", 0, d::mean);
        Check.sentence("10: ArithmeticException: none was served.");
        d.change(1, 0, -1);
        d.run(1, 66, 0, 7);
        Check.refused("of 7", Check.NONE, d::mean);
        d.run(0, 66, 0, 0);
        Check.refused("of none", Check.NONE, d::mean);
    }

    private static void missed() {
        Check.sentence("11: Missed minutes of the run.");
        DaySimulate d = Towns.one(0);
        d.run(0, 0, 0, 1);
        Check.due("of 74", 74, d::missed);
        d.rules(9, 0);
        d.unit(0);
        Check.due("a later unit does not change it", 74, d::missed);
        d.run(0, 0, 0, 1);
        Check.due("the latest run has another unit", 0, d::missed);
        d.run(0, 0, 0, 0);
        Check.due("no calls", 0, d::missed);
        d.change(1, 0, -1);
        d.change(1, 1, -1);
        d.run(1, 0, 0, 60);
        Check.due("no units", 1440, d::missed);
    }

    private static void work() {
        Check.sentence("12: A unit's work in the run. Unknown: no such unit.");
        DaySimulate none = Towns.stations(6);
        Check.refused("unit 0 of none", Check.UNKNOWN, () -> none.work(0));
        DaySimulate d = Towns.one(0);
        d.run(0, 0, 0, 1);
        for (int unit : new int[] {-1, 1, 11, 12, MIN, MAX}) {
            Check.refused("unit " + unit, Check.UNKNOWN, () -> d.work(unit));
        }
        Check.due("unit 0", 74, () -> d.work(0));
        d.station(1, 1);
        d.station(2, 2);
        for (int k = 1; k < 12; k++) {
            int number = d.unit(k / 4);
            Check.due("unit " + k + " came behind the run", 0, () -> d.work(number));
        }
        Check.refused("unit 12 of 12", Check.UNKNOWN, () -> d.work(12));
    }

    private static void worst() {
        Check.sentence("13: The hour (0 .. 23) in which most late calls of the run began");
        DaySimulate d = new DaySimulate();
        d.area(0, 0, 1);
        // minutes of the only call: 0, 59, 60, 1379, 1380, 1439
        int[][] hours = {{0, 0}, {305, 0}, {1682, 1}, {2901, 22}, {1032, 23}, {903, 23}};
        for (int[] h : hours) {
            d.run(0, h[0], 0, 1);
            Check.due("hour of seed " + h[0], h[1], d::worst);
        }
        // (1439, 3, 31), (0, 0, 79)
        d.run(0, 385511, 0, 2);
        Check.sentence("13: the lowest of the same");
        Check.due("hours 23 and 0", 0, d::worst);
        Check.sentence("13: -1 when none is late.");
        DaySimulate served = Towns.one(0);
        served.run(0, 385511, 0, 2);
        Check.due("none late", -1, served::worst);
        served.run(0, 0, 0, 0);
        Check.due("no calls", -1, served::worst);
        // (544, 1, 36), (579, 2, 48): the second has a delay of 1
        served.run(0, 210, 0, 2);
        served.rules(1, 0);
        Check.due("one late", 9, served::worst);
        served.rules(1, 1);
        Check.due("at the mark it is not", -1, served::worst);
    }

    private static void arrived() {
        Check.sentence("14: How many calls of the run had arrived by a minute (0 .. 9,999). Range: it.");
        DaySimulate d = Towns.one(0);
        Check.due("no run", 0, () -> d.arrived(0));
        d.run(0, 0, 0, 1);
        Check.due("in minute 0", 1, () -> d.arrived(0));
        for (int minute : new int[] {-1, 10000, MIN, MAX}) {
            Check.refused("minute " + minute, Check.RANGE, () -> d.arrived(minute));
        }
        DaySimulate far = new DaySimulate();
        far.station(0, 0);
        far.area(99, 99, 1);
        far.unit(0);
        far.rules(9, 10);
        far.run(0, 789, 0, 12);
        Check.due("call 1 arrives in 9999", 9999, () -> far.call(1, 0) + far.call(1, 4));
        Check.due("by 9998", 10, () -> far.arrived(9998));
        Check.due("by 9999", 11, () -> far.arrived(9999));
        far.run(0, 125, 0, 12);
        Check.due("call 6 arrives in 10000", 10000, () -> far.call(6, 0) + far.call(6, 4));
        Check.due("by 9999 without it", 10, () -> far.arrived(9999));
        far.change(1, 0, -1);
        far.run(1, 125, 0, 12);
        Check.due("never served", 0, () -> far.arrived(9999));
    }

    private static void unlucky() {
        Check.sentence("15: Of n seeds (1 .. 8) from one on (in 32 bits) that with the most late calls,"
                + " the first of the same (as of run()).");
        // a call from area 1 is late; seed 384 is the first from 376 on that draws it
        DaySimulate d = Towns.ends();
        Check.due("the last of 8", 384, () -> d.unlucky(0, 377, 8, 0, 1));
        Check.due("a 9th is not asked", 376, () -> d.unlucky(0, 376, 8, 0, 1));
        Check.due("the first of the same, none late", 377, () -> d.unlucky(0, 377, 7, 0, 1));
        Check.due("one seed", 376, () -> d.unlucky(0, 376, 1, 0, 1));
        Check.due("no calls", MAX, () -> d.unlucky(0, MAX, 8, 999, 0));
        // areas from MAX - 1 on: 0, 1, then from MIN on 0, 0, 1, 1
        Check.due("MAX itself", MAX, () -> d.unlucky(0, MAX - 1, 2, 0, 1));
        Check.due("from MAX over to MIN", MIN, () -> d.unlucky(1, MAX, 2, 0, 1));
        Check.due("the first is MAX", MAX, () -> d.unlucky(0, MAX, 8, 0, 1));
        Check.due("over 0", 2, () -> d.unlucky(0, -1, 8, 0, 1));
        asOfRun(d, -5, 9, 30);
        asOfRun(d, MAX - 3, 999, 60);
        DaySimulate none = Towns.ends();
        none.change(2, 0, -1);
        Check.due("all late with every seed", -4, () -> none.unlucky(2, -4, 8, 0, 60));
    }

    private static void asOfRun(DaySimulate d, int seed, int day, int calls) {
        int most = -1;
        int first = 0;
        for (int k = 0; k < 8; k++) {
            int late = d.run(0, seed + k, day, calls);
            if (late > most) {
                most = late;
                first = seed + k;
            }
        }
        Check.due("as of run() from " + seed + " on", first, () -> d.unlucky(0, seed, 8, day, calls));
    }

    private static void unluckyRefused() {
        Check.sentence("15: Unknown: no such variant; range: n, day, calls; state: there are calls, but no areas.");
        DaySimulate d = Towns.one(0);
        d.run(0, 0, 0, 1);
        for (int variant : new int[] {-1, 4, MIN, MAX}) {
            Check.refused("variant " + variant, Check.UNKNOWN, () -> d.unlucky(variant, 0, 1, 0, 1));
        }
        for (int n : new int[] {0, 9, -1, MIN, MAX}) {
            Check.refused(n + " seeds", Check.RANGE, () -> d.unlucky(0, 0, n, 0, 1));
        }
        for (int day : new int[] {-1, 1000, MIN, MAX}) {
            Check.refused("day " + day, Check.RANGE, () -> d.unlucky(0, 0, 1, day, 1));
        }
        for (int calls : new int[] {-1, 61, MIN, MAX}) {
            Check.refused(calls + " calls", Check.RANGE, () -> d.unlucky(0, 0, 1, 0, calls));
        }
        Check.due("the run is still told of", 74, () -> d.work(0));
        DaySimulate bare = Towns.stations(1);
        bare.unit(0);
        Check.refused("a call, no areas", Check.STATE, () -> bare.unlucky(0, 0, 1, 0, 1));
        Check.refused("60 calls, no areas", Check.STATE, () -> bare.unlucky(0, 0, 8, 999, 60));
        Check.due("no calls, no areas", -9, () -> bare.unlucky(3, -9, 8, 999, 0));
    }

    /** Seed, first day, days, and what is due for what 0 to 3. */
    private static void compared(DaySimulate d, int seed, int day, int n, int... want) {
        for (int what = 0; what < 4; what++) {
            int asked = what;
            Check.due("what " + what + " of seed " + seed + ", " + n + " days from " + day, want[what],
                    () -> d.compare(0, 1, seed, day, n, asked));
        }
    }

    private static void compare() {
        Check.sentence("16: Compares two variants on n days (1 .. 20) from one on (all below 1,000) of a seed,"
                + " with 12 calls each: what 0 on how many days the first has fewer late calls, 1 on how many more");
        DaySimulate d = Towns.ends();
        int fewer = 0;
        int more = 0;
        for (int day = 980; day < 1000; day++) {
            int first = d.run(0, MAX, day, 12);
            int second = d.run(1, MAX, day, 12);
            fewer += first < second ? 1 : 0;
            more += first > second ? 1 : 0;
        }
        int less = fewer;
        int above = more;
        Check.holds("there are days of all kinds", less > 0 && above > 0 && less + above < 20);
        Check.due("fewer on the last 20 days", less, () -> d.compare(0, 1, MAX, 980, 20, 0));
        Check.due("more on the last 20 days", above, () -> d.compare(0, 1, MAX, 980, 20, 1));
        Check.due("fewer, the other way round", above, () -> d.compare(1, 0, MAX, 980, 20, 0));
        Check.due("more, the other way round", less, () -> d.compare(1, 0, MAX, 980, 20, 1));
        Check.due("a variant with itself: fewer", 0, () -> d.compare(1, 1, MAX, 980, 20, 0));
        Check.due("a variant with itself: more", 0, () -> d.compare(1, 1, MAX, 980, 20, 1));
        for (int day : new int[] {0, 999}) {
            int first = d.run(0, 5, day, 12);
            int second = d.run(1, 5, day, 12);
            Check.due("day " + day + " alone", first < second ? 1 : 0, () -> d.compare(0, 1, 5, day, 1, 0));
        }
    }

    private static void compareTail() {
        Check.sentence("16: 2, 3 the tail's upper and lower number in lowest terms: .. those in which at least"
                + " as many as in 0 show heads, over all.");
        DaySimulate d = Towns.ends();
        compared(d, 1, 0, 2, 1, 1, 3, 4);
        compared(d, 1, 0, 3, 2, 1, 1, 2);
        compared(d, 4, 0, 3, 1, 2, 7, 8);
        compared(d, 2, 0, 4, 2, 2, 11, 16);
        compared(d, 1, 0, 4, 3, 1, 5, 16);
        compared(d, 24, 0, 3, 0, 3, 1, 1);
        compared(d, 9, 0, 3, 1, 0, 1, 2);
        compared(d, 5, 0, 12, 5, 5, 319, 512);
        compared(d, 86, 980, 20, 10, 10, 308333, 524288);
        compared(d, 2, 980, 20, 11, 8, 84883, 262144);
        DaySimulate same = Towns.ends();
        same.change(1, 0, 0);
        compared(same, 86, 980, 20, 0, 0, 1, 1);
        DaySimulate all = Towns.one(0);
        all.change(1, 0, -1);
        compared(all, 86, 980, 20, 20, 0, 1, 1 << 20);
        compared(all, 86, 0, 1, 1, 0, 1, 2);
    }

    private static void compareRefused() {
        Check.sentence("16: Unknown: no such variants or what; range: n, days; state: there are no areas.");
        DaySimulate d = Towns.one(0);
        d.run(0, 0, 0, 1);
        for (int variant : new int[] {-1, 4, MIN, MAX}) {
            Check.refused("first variant " + variant, Check.UNKNOWN, () -> d.compare(variant, 0, 0, 0, 1, 0));
            Check.refused("other variant " + variant, Check.UNKNOWN, () -> d.compare(0, variant, 0, 0, 1, 0));
        }
        for (int what : new int[] {-1, 4, MIN, MAX}) {
            Check.refused("what " + what, Check.UNKNOWN, () -> d.compare(0, 1, 0, 0, 1, what));
        }
        for (int n : new int[] {0, 21, -1, MIN, MAX}) {
            Check.refused(n + " days", Check.RANGE, () -> d.compare(0, 1, 0, 0, n, 0));
        }
        int[][] days = {{-1, 1}, {-1, 20}, {1000, 1}, {999, 2}, {981, 20}, {MIN, 1}, {MAX, 1}, {MAX, 20},
            {MAX - 19, 20}, {1001, -1}, {1000, 0}};
        for (int[] r : days) {
            Check.refused(r[1] + " days from " + r[0], Check.RANGE, () -> d.compare(0, 1, 0, r[0], r[1], 0));
        }
        Check.due("the run is still told of", 74, () -> d.work(0));
        Check.due("the last day that may be", 0, () -> d.compare(0, 1, 0, 980, 20, 0));
        DaySimulate bare = Towns.stations(1);
        bare.unit(0);
        Check.refused("no areas", Check.STATE, () -> bare.compare(0, 1, 0, 0, 1, 0));
        Check.refused("no areas, 20 days", Check.STATE, () -> bare.compare(3, 3, 0, 980, 20, 3));
        bare.area(0, 0, 1);
        Check.due("an area", 0, () -> bare.compare(3, 3, 0, 980, 20, 0));
    }
}
