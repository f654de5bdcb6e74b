/** Small services to ask, with as little in them as a test needs. */
final class Towns {
    private Towns() {
    }

    /** One unit at 0, 0 and one area so far along x. */
    static DaySimulate one(int distance) {
        DaySimulate d = new DaySimulate();
        d.station(0, 0);
        d.area(distance, 0, 1);
        d.unit(0);
        return d;
    }

    static DaySimulate stations(int count) {
        DaySimulate d = new DaySimulate();
        for (int k = 0; k < count; k++) {
            d.station(10 * k, 0);
        }
        return d;
    }

    static void units(DaySimulate d, int station, int count) {
        for (int k = 0; k < count; k++) {
            d.unit(station);
        }
    }

    /** Area and station 0 at one end, 1 at the other, a way of 25; one unit, in variant 1 at 1. */
    static DaySimulate ends() {
        DaySimulate d = new DaySimulate();
        d.station(0, 0);
        d.station(99, 0);
        d.area(0, 0, 1);
        d.area(99, 0, 1);
        d.unit(0);
        d.change(1, 0, 1);
        return d;
    }

    /** Unit 0 has a way of 10 to the only area, unit 1 none; variant 1 leaves unit 1 out. */
    static DaySimulate farAndNear() {
        DaySimulate d = new DaySimulate();
        d.station(40, 0);
        d.station(0, 0);
        d.area(0, 0, 1);
        d.unit(0);
        d.unit(1);
        d.change(1, 1, -1);
        return d;
    }
}
