/**
 * Days of a rescue service played on a copy: calls are drawn by a seed, units are sent by rules,
 * and variants with moved or left out units are compared on equal draws.
 */
public final class DaySimulate {
    private static final int SIDE = 100;
    private static final int MAX_STATIONS = 6;
    private static final int MAX_AREAS = 10;
    private static final int MAX_WEIGHT = 50;
    private static final int MAX_UNITS = 12;
    private static final int MAX_UNITS_AT_STATION = 4;
    private static final int VARIANTS = 4;
    private static final int MAX_PACE = 9;
    private static final int MAX_MARK = 1000;
    private static final int DAYS = 1000;
    private static final int MAX_CALLS = 60;
    private static final int DAY_MINUTES = 1440;
    private static final int HOUR_MINUTES = 60;
    private static final int HOURS = 24;
    private static final int MAX_ASKED_MINUTE = 9999;
    private static final int MAX_SEEDS = 8;
    private static final int MAX_COMPARED_DAYS = 20;
    private static final int COMPARED_CALLS = 12;
    private static final int NONE = -1;
    /** Above every minute and every way that a run can come to. */
    private static final int NEVER = 0x7FFFFFFF;
    /** Something happens only when a call begins or a unit comes back, and in minute 0. */
    private static final int MAX_EVENTS = 2 * MAX_CALLS + 1;
    /** Far above the steps that Euclid's way needs for any two ints. */
    private static final int MAX_DIVISIONS = 100;

    private final Town town;
    private final Fleet fleet;
    private final Play play;
    private int pace;
    private int mark;

    public DaySimulate() {
        town = new Town();
        fleet = new Fleet();
        play = new Play();
        pace = 1;
        mark = 10;
    }

    public int station(int x, int y) throws IndexOutOfBoundsException, UnsupportedOperationException {
        needRange(isPlace(x, y));
        needRoom(town.stations < MAX_STATIONS);
        return town.addStation(x, y);
    }

    public int area(int x, int y, int weight) throws IndexOutOfBoundsException, UnsupportedOperationException {
        needRange(isPlace(x, y) && isWithin(weight, 1, MAX_WEIGHT));
        needRoom(town.areas < MAX_AREAS);
        return town.addArea(x, y, weight);
    }

    public int unit(int station)
            throws IllegalArgumentException, IllegalStateException, UnsupportedOperationException {
        needKnown(isBelow(station, town.stations));
        needState(fleet.hasRoomInAllVariants(station));
        needRoom(fleet.units < MAX_UNITS);
        return fleet.addUnit(station);
    }

    public void change(int variant, int unit, int station) throws IllegalArgumentException, IllegalStateException {
        needKnown(isWithin(variant, 1, VARIANTS - 1) && isBelow(unit, fleet.units));
        needKnown(station == NONE || isBelow(station, town.stations));
        needState(station == NONE || fleet.countOthers(variant, station, unit) < MAX_UNITS_AT_STATION);
        fleet.move(variant, unit, station);
    }

    public void rules(int pace, int mark) throws IndexOutOfBoundsException {
        needRange(isWithin(pace, 1, MAX_PACE) && isWithin(mark, 0, MAX_MARK));
        this.pace = pace;
        this.mark = mark;
    }

    public int run(int variant, int seed, int day, int calls)
            throws IllegalArgumentException, IndexOutOfBoundsException, IllegalStateException {
        needKnown(isBelow(variant, VARIANTS));
        needRange(isBelow(day, DAYS) && isWithin(calls, 0, MAX_CALLS));
        needState(calls == 0 || town.areas > 0);
        return lateOn(variant, seed, day, calls);
    }

    public int call(int i, int what) throws IllegalArgumentException {
        Day drawn = play.day;
        needKnown(isBelow(i, drawn.calls));
        switch (what) {
            case 0:
                return drawn.minute[i];
            case 1:
                return drawn.area[i];
            case 2:
                return drawn.rank[i];
            case 3:
                return play.unitOf[i];
            case 4:
                return play.delay(i);
            case 5:
                return play.whyLate(i, mark);
            default:
                throw new IllegalArgumentException("no such what");
        }
    }

    public int share(int what) throws IllegalArgumentException, ArithmeticException {
        needKnown(isWithin(what, 0, 1));
        int calls = play.day.calls;
        if (calls == 0) {
            throw new ArithmeticException("the run has no calls");
        }
        return lowestTerm(calls - play.countLate(mark), calls, what == 0);
    }

    public int mean() throws ArithmeticException {
        int served = play.countServed();
        if (served == 0) {
            throw new ArithmeticException("no call was served");
        }
        return (int) (play.sumOfDelays() * 1000 / served);
    }

    public int missed() {
        return play.missedMinutes;
    }

    public int work(int unit) throws IllegalArgumentException {
        needKnown(isBelow(unit, fleet.units));
        return play.workOf[unit];
    }

    public int worst() {
        return play.hourOfMostLate(mark);
    }

    public int arrived(int minute) throws IndexOutOfBoundsException {
        needRange(isWithin(minute, 0, MAX_ASKED_MINUTE));
        return play.countArrivedBy(minute);
    }

    public int unlucky(int variant, int seed, int n, int day, int calls)
            throws IllegalArgumentException, IndexOutOfBoundsException, IllegalStateException {
        needKnown(isBelow(variant, VARIANTS));
        needRange(isWithin(n, 1, MAX_SEEDS) && isBelow(day, DAYS) && isWithin(calls, 0, MAX_CALLS));
        needState(calls == 0 || town.areas > 0);
        int most = NONE;
        int found = seed;
        for (int k = 0; k < n; k++) {
            int late = lateOn(variant, seed + k, day, calls);
            if (late > most) {
                most = late;
                found = seed + k;
            }
        }
        play.forget();
        return found;
    }

    public int compare(int variant, int other, int seed, int day, int n, int what)
            throws IllegalArgumentException, IndexOutOfBoundsException, IllegalStateException {
        needKnown(isBelow(variant, VARIANTS) && isBelow(other, VARIANTS) && isWithin(what, 0, 3));
        needRange(isWithin(n, 1, MAX_COMPARED_DAYS) && isWithin(day, 0, DAYS - n));
        needState(town.areas > 0);
        int fewer = 0;
        int more = 0;
        for (int k = 0; k < n; k++) {
            int first = lateOn(variant, seed, day + k, COMPARED_CALLS);
            int second = lateOn(other, seed, day + k, COMPARED_CALLS);
            if (first < second) {
                fewer++;
            } else if (first > second) {
                more++;
            }
        }
        play.forget();
        if (what < 2) {
            return what == 0 ? fewer : more;
        }
        int coins = fewer + more;
        return lowestTerm(waysOfHeads(coins, fewer), 1 << coins, what == 2);
    }

    private int lateOn(int variant, int seed, int day, int calls) {
        play.day.draw(town, seed, day, calls);
        play.begin(town, fleet, variant, pace);
        play.playOut();
        return play.countLate(mark);
    }

    /** In how many of all falls of so many coins at least so many show heads. */
    private static int waysOfHeads(int coins, int heads) {
        int sum = 0;
        int ways = 1;
        for (int k = 0; k <= coins; k++) {
            if (k >= heads) {
                sum += ways;
            }
            ways = ways * (coins - k) / (k + 1);
        }
        return sum;
    }

    private static int lowestTerm(int upper, int lower, boolean wantsUpper) {
        int divisor = commonDivisor(upper, lower);
        return (wantsUpper ? upper : lower) / divisor;
    }

    private static int commonDivisor(int a, int b) {
        int large = a;
        int small = b;
        for (int step = 0; step < MAX_DIVISIONS && small != 0; step++) {
            int rest = large % small;
            large = small;
            small = rest;
        }
        return Math.max(large, 1);
    }

    private static boolean isWithin(int number, int least, int most) {
        return number >= least && number <= most;
    }

    private static boolean isBelow(int number, int count) {
        return number >= 0 && number < count;
    }

    private static boolean isPlace(int x, int y) {
        return isBelow(x, SIDE) && isBelow(y, SIDE);
    }

    private static void needKnown(boolean holds) {
        if (!holds) {
            throw new IllegalArgumentException("unknown number");
        }
    }

    private static void needRange(boolean holds) {
        if (!holds) {
            throw new IndexOutOfBoundsException("number outside its range");
        }
    }

    private static void needState(boolean holds) {
        if (!holds) {
            throw new IllegalStateException("not in this state");
        }
    }

    private static void needRoom(boolean holds) {
        if (!holds) {
            throw new UnsupportedOperationException("no room");
        }
    }

    /** The places: stations that units start from, areas that calls come from. */
    private static final class Town {
        final int[] stationX = new int[MAX_STATIONS];
        final int[] stationY = new int[MAX_STATIONS];
        final int[] areaX = new int[MAX_AREAS];
        final int[] areaY = new int[MAX_AREAS];
        final int[] weight = new int[MAX_AREAS];
        int stations = 0;
        int areas = 0;
        int weightSum = 0;

        int addStation(int x, int y) {
            stationX[stations] = x;
            stationY[stations] = y;
            return stations++;
        }

        int addArea(int x, int y, int areaWeight) {
            areaX[areas] = x;
            areaY[areas] = y;
            weight[areas] = areaWeight;
            weightSum += areaWeight;
            return areas++;
        }

        /** The area that a drawn number falls on: the more weight an area has, the more often. */
        int areaOfDraw(int draw) {
            int rest = draw % Math.max(weightSum, 1);
            int found = 0;
            for (int a = 0; a < areas && rest >= 0; a++) {
                found = a;
                rest -= weight[a];
            }
            return found;
        }

        int wayMinutes(int station, int area, int pace) {
            int distance = Math.abs(stationX[station] - areaX[area]) + Math.abs(stationY[station] - areaY[area]);
            return (distance * pace + 3) / 4;
        }
    }

    /** The units, with the station of each in every variant (NONE: left out). */
    private static final class Fleet {
        final int[][] stationOf = new int[VARIANTS][MAX_UNITS];
        int units = 0;

        int addUnit(int station) {
            for (int v = 0; v < VARIANTS; v++) {
                stationOf[v][units] = station;
            }
            return units++;
        }

        void move(int variant, int unit, int station) {
            stationOf[variant][unit] = station;
        }

        boolean hasRoomInAllVariants(int station) {
            for (int v = 0; v < VARIANTS; v++) {
                if (countOthers(v, station, NONE) >= MAX_UNITS_AT_STATION) {
                    return false;
                }
            }
            return true;
        }

        int countOthers(int variant, int station, int unit) {
            int count = 0;
            for (int u = 0; u < units; u++) {
                if (u != unit && stationOf[variant][u] == station) {
                    count++;
                }
            }
            return count;
        }
    }

    /** The calls of one day, as a seed draws them: equal for every variant. */
    private static final class Day {
        final int[] minute = new int[MAX_CALLS];
        final int[] area = new int[MAX_CALLS];
        final int[] rank = new int[MAX_CALLS];
        final int[] lasts = new int[MAX_CALLS];
        int calls = 0;

        void draw(Town town, int seed, int number, int count) {
            calls = count;
            for (int i = 0; i < count; i++) {
                int v = mix(seed + 1000003 * number + 31 * i);
                int w = mix(v + 1);
                int u = mix(w + 1);
                minute[i] = (v >>> 4) % DAY_MINUTES;
                rank[i] = w & 3;
                lasts[i] = 10 + (w >>> 8) % 90;
                area[i] = town.areaOfDraw(u >>> 4);
            }
        }

        private static int mix(int number) {
            int v = number;
            v = (v ^ (v >>> 15)) * 0x85EBCA6B;
            v = (v ^ (v >>> 13)) * 0xC2B2AE35;
            return v ^ (v >>> 16);
        }
    }

    /** One run of a drawn day: who was sent when, and what came of it. */
    private static final class Play {
        final Day day = new Day();
        final int[] unitOf = new int[MAX_CALLS];
        final int[] wayOf = new int[MAX_CALLS];
        final int[] arrival = new int[MAX_CALLS];
        final int[] workOf = new int[MAX_UNITS];
        private final boolean[] leftOut = new boolean[MAX_UNITS];
        private final int[][] wayTo = new int[MAX_UNITS][MAX_AREAS];
        private final int[] backAt = new int[MAX_UNITS];
        private final int[] lateInHour = new int[HOURS];
        private int units = 0;
        int missedMinutes = 0;

        void forget() {
            day.calls = 0;
            missedMinutes = 0;
            for (int u = 0; u < MAX_UNITS; u++) {
                workOf[u] = 0;
            }
        }

        void begin(Town town, Fleet fleet, int variant, int pace) {
            units = fleet.units;
            missedMinutes = 0;
            for (int u = 0; u < MAX_UNITS; u++) {
                backAt[u] = 0;
                workOf[u] = 0;
            }
            for (int u = 0; u < units; u++) {
                post(town, u, fleet.stationOf[variant][u], pace);
            }
            for (int i = 0; i < MAX_CALLS; i++) {
                unitOf[i] = NONE;
            }
        }

        /** A unit's ways are worked out once a run, for they are asked again with every sending. */
        private void post(Town town, int u, int station, int pace) {
            leftOut[u] = station == NONE;
            for (int a = 0; a < town.areas && station != NONE; a++) {
                wayTo[u][a] = town.wayMinutes(station, a, pace);
            }
        }

        /** Goes from event to event: in the minutes between nothing can change. */
        void playOut() {
            int now = 0;
            for (int event = 0; event < MAX_EVENTS && now < NEVER; event++) {
                sendUnits(now);
                int next = nextEvent(now);
                if (!isAnyFree(now)) {
                    missedMinutes += Math.max(0, Math.min(next, DAY_MINUTES) - now);
                }
                now = next;
            }
        }

        private void sendUnits(int now) {
            for (int sent = 0; sent < MAX_CALLS; sent++) {
                int i = firstWaiting(now);
                if (i == NONE) {
                    return;
                }
                int u = nearestFree(now, day.area[i]);
                if (u == NONE) {
                    return;
                }
                send(i, u, now);
            }
        }

        private void send(int i, int u, int now) {
            int way = wayTo[u][day.area[i]];
            unitOf[i] = u;
            wayOf[i] = way;
            arrival[i] = now + way;
            backAt[u] = arrival[i] + day.lasts[i] + way;
            workOf[u] += backAt[u] - now;
        }

        private int firstWaiting(int now) {
            int best = NONE;
            for (int i = 0; i < day.calls; i++) {
                boolean waits = unitOf[i] == NONE && day.minute[i] <= now;
                if (waits && (best == NONE || goesAhead(i, best))) {
                    best = i;
                }
            }
            return best;
        }

        /** Whether call i goes ahead of a call with a lower number. */
        private boolean goesAhead(int i, int lower) {
            if (day.rank[i] != day.rank[lower]) {
                return day.rank[i] > day.rank[lower];
            }
            return day.minute[i] < day.minute[lower];
        }

        private int nearestFree(int now, int area) {
            int best = NONE;
            int least = NEVER;
            for (int u = 0; u < units; u++) {
                if (isFree(u, now) && wayTo[u][area] < least) {
                    least = wayTo[u][area];
                    best = u;
                }
            }
            return best;
        }

        private boolean isFree(int u, int now) {
            return !leftOut[u] && backAt[u] <= now;
        }

        private boolean isAnyFree(int now) {
            for (int u = 0; u < units; u++) {
                if (isFree(u, now)) {
                    return true;
                }
            }
            return false;
        }

        private int nextEvent(int now) {
            int next = NEVER;
            for (int i = 0; i < day.calls; i++) {
                if (day.minute[i] > now) {
                    next = Math.min(next, day.minute[i]);
                }
            }
            for (int u = 0; u < units; u++) {
                if (backAt[u] > now) {
                    next = Math.min(next, backAt[u]);
                }
            }
            return next;
        }

        int delay(int i) {
            return unitOf[i] == NONE ? NONE : arrival[i] - day.minute[i];
        }

        private boolean isLate(int i, int mark) {
            return unitOf[i] == NONE || delay(i) > mark;
        }

        int whyLate(int i, int mark) {
            if (!isLate(i, mark)) {
                return 0;
            }
            if (unitOf[i] == NONE) {
                return 3;
            }
            return wayOf[i] > mark ? 2 : 1;
        }

        int countLate(int mark) {
            int count = 0;
            for (int i = 0; i < day.calls; i++) {
                if (isLate(i, mark)) {
                    count++;
                }
            }
            return count;
        }

        int countServed() {
            int count = 0;
            for (int i = 0; i < day.calls; i++) {
                if (unitOf[i] != NONE) {
                    count++;
                }
            }
            return count;
        }

        int countArrivedBy(int minute) {
            int count = 0;
            for (int i = 0; i < day.calls; i++) {
                if (unitOf[i] != NONE && arrival[i] <= minute) {
                    count++;
                }
            }
            return count;
        }

        /** A long, for a thousand times this comes close to what an int holds. */
        long sumOfDelays() {
            long sum = 0;
            for (int i = 0; i < day.calls; i++) {
                if (unitOf[i] != NONE) {
                    sum += delay(i);
                }
            }
            return sum;
        }

        int hourOfMostLate(int mark) {
            for (int h = 0; h < HOURS; h++) {
                lateInHour[h] = 0;
            }
            for (int i = 0; i < day.calls; i++) {
                if (isLate(i, mark)) {
                    lateInHour[day.minute[i] / HOUR_MINUTES]++;
                }
            }
            int worstHour = NONE;
            int most = 0;
            for (int h = 0; h < HOURS; h++) {
                if (lateInHour[h] > most) {
                    most = lateInHour[h];
                    worstHour = h;
                }
            }
            return worstHour;
        }
    }
}
