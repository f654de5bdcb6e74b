import java.util.ArrayList;
import java.util.List;

/** The document's words once more, minute by minute and with lists, to hold the class against. */
final class SlowService {
    static final class Place {
        int x;
        int y;
        int weight;

        Place(int x, int y, int weight) {
            this.x = x;
            this.y = y;
            this.weight = weight;
        }
    }

    static final class Call {
        int number;
        int minute;
        int rank;
        int lasts;
        int area;
        int unit = -1;
        int way;
        int arrival;

        int delay() {
            return unit == -1 ? -1 : arrival - minute;
        }
    }

    private final List<Place> stations = new ArrayList<>();
    private final List<Place> areas = new ArrayList<>();
    /** Of each unit its station in the four variants. */
    private final List<int[]> units = new ArrayList<>();
    private List<Call> calls = new ArrayList<>();
    private int missed = 0;
    private int[] work = new int[12];
    private int pace = 1;
    private int mark = 10;

    private static void unknown(boolean bad) {
        if (bad) {
            throw new IllegalArgumentException();
        }
    }

    private static void range(boolean bad) {
        if (bad) {
            throw new IndexOutOfBoundsException();
        }
    }

    private static void state(boolean bad) {
        if (bad) {
            throw new IllegalStateException();
        }
    }

    private static void room(boolean bad) {
        if (bad) {
            throw new UnsupportedOperationException();
        }
    }

    int station(int x, int y) {
        range(x < 0 || x > 99 || y < 0 || y > 99);
        room(stations.size() == 6);
        stations.add(new Place(x, y, 0));
        return stations.size() - 1;
    }

    int area(int x, int y, int weight) {
        range(x < 0 || x > 99 || y < 0 || y > 99 || weight < 1 || weight > 50);
        room(areas.size() == 10);
        areas.add(new Place(x, y, weight));
        return areas.size() - 1;
    }

    private int at(int variant, int station, int[] except) {
        int n = 0;
        for (int[] unit : units) {
            if (unit != except && unit[variant] == station) {
                n++;
            }
        }
        return n;
    }

    int unit(int station) {
        unknown(station < 0 || station >= stations.size());
        state(at(0, station, null) == 4 || at(1, station, null) == 4
                || at(2, station, null) == 4 || at(3, station, null) == 4);
        room(units.size() == 12);
        units.add(new int[] {station, station, station, station});
        return units.size() - 1;
    }

    void change(int variant, int unit, int station) {
        unknown(variant < 1 || variant > 3 || unit < 0 || unit >= units.size());
        unknown(station < -1 || station >= stations.size());
        state(station != -1 && at(variant, station, units.get(unit)) == 4);
        units.get(unit)[variant] = station;
    }

    void rules(int newPace, int newMark) {
        range(newPace < 1 || newPace > 9 || newMark < 0 || newMark > 1000);
        pace = newPace;
        mark = newMark;
    }

    static long mix(long number) {
        long v = number & 0xFFFFFFFFL;
        v = v ^ (v >> 15);
        v = v * 0x85EBCA6BL & 0xFFFFFFFFL;
        v = v ^ (v >> 13);
        v = v * 0xC2B2AE35L & 0xFFFFFFFFL;
        return v ^ (v >> 16);
    }

    private Call drawn(int seed, int day, int i) {
        long v = mix(seed + 1000003L * day + 31L * i);
        long w = mix(v + 1);
        long u = mix(w + 1);
        Call call = new Call();
        call.number = i;
        call.minute = (int) ((v >> 4) % 1440);
        call.rank = (int) (w & 3);
        call.lasts = 10 + (int) ((w >> 8) % 90);
        int all = 0;
        for (Place area : areas) {
            all += area.weight;
        }
        long ticket = (u >> 4) % all;
        int sum = areas.get(0).weight;
        while (sum <= ticket) {
            call.area++;
            sum += areas.get(call.area).weight;
        }
        return call;
    }

    private int way(int station, int area) {
        Place a = stations.get(station);
        Place b = areas.get(area);
        int quarters = (Math.abs(a.x - b.x) + Math.abs(a.y - b.y)) * pace;
        return quarters % 4 == 0 ? quarters / 4 : quarters / 4 + 1;
    }

    private int play(int variant, int seed, int day, int count) {
        calls = new ArrayList<>();
        for (int i = 0; i < count; i++) {
            calls.add(drawn(seed, day, i));
        }
        missed = 0;
        work = new int[12];
        List<Integer> free = new ArrayList<>();
        int[] back = new int[12];
        for (int u = 0; u < units.size(); u++) {
            if (units.get(u)[variant] != -1) {
                free.add(u);
            }
        }
        int going = free.size();
        List<Call> toCome = new ArrayList<>(calls);
        List<Call> waiting = new ArrayList<>();
        for (int t = 0; t < 1440 || going > 0 && toCome.size() + waiting.size() > 0; t++) {
            for (int u = 0; u < units.size(); u++) {
                if (back[u] == t && t > 0) {
                    free.add(u);
                }
            }
            for (Call c : calls) {
                if (c.minute == t) {
                    toCome.remove(c);
                    waiting.add(c);
                }
            }
            while (!waiting.isEmpty() && !free.isEmpty()) {
                sendOne(variant, t, waiting, free, back);
            }
            if (t < 1440 && free.isEmpty()) {
                missed++;
            }
        }
        return late();
    }

    private void sendOne(int variant, int t, List<Call> waiting, List<Integer> free, int[] back) {
        waiting.sort((a, b) -> a.rank != b.rank ? b.rank - a.rank
                : a.minute != b.minute ? a.minute - b.minute : a.number - b.number);
        Call c = waiting.remove(0);
        free.sort((a, b) -> {
            int wayA = way(units.get(a)[variant], c.area);
            int wayB = way(units.get(b)[variant], c.area);
            return wayA != wayB ? wayA - wayB : a - b;
        });
        c.unit = free.remove(0);
        c.way = way(units.get(c.unit)[variant], c.area);
        c.arrival = t + c.way;
        back[c.unit] = c.arrival + c.lasts + c.way;
        work[c.unit] += 2 * c.way + c.lasts;
    }

    private boolean isLate(Call c) {
        return c.unit == -1 || c.delay() > mark;
    }

    private int late() {
        int n = 0;
        for (Call c : calls) {
            n += isLate(c) ? 1 : 0;
        }
        return n;
    }

    private void forget() {
        calls = new ArrayList<>();
        missed = 0;
        work = new int[12];
    }

    int run(int variant, int seed, int day, int count) {
        unknown(variant < 0 || variant > 3);
        range(day < 0 || day > 999 || count < 0 || count > 60);
        state(count > 0 && areas.isEmpty());
        return play(variant, seed, day, count);
    }

    int call(int i, int what) {
        unknown(i < 0 || i >= calls.size() || what < 0 || what > 5);
        Call c = calls.get(i);
        int why = !isLate(c) ? 0 : c.unit == -1 ? 3 : c.way > mark ? 2 : 1;
        return new int[] {c.minute, c.area, c.rank, c.unit, c.delay(), why}[what];
    }

    int share(int what) {
        unknown(what < 0 || what > 1);
        if (calls.isEmpty()) {
            throw new ArithmeticException();
        }
        return lowest(calls.size() - late(), calls.size())[what];
    }

    private static int[] lowest(int upper, int lower) {
        for (int d = lower; d > 1; d--) {
            if (upper % d == 0 && lower % d == 0) {
                return new int[] {upper / d, lower / d};
            }
        }
        return new int[] {upper, lower};
    }

    int mean() {
        long sum = 0;
        int served = 0;
        for (Call c : calls) {
            if (c.unit != -1) {
                sum += 1000L * c.delay();
                served++;
            }
        }
        if (served == 0) {
            throw new ArithmeticException();
        }
        return (int) Math.floorDiv(sum, (long) served);
    }

    int missed() {
        return missed;
    }

    int work(int unit) {
        unknown(unit < 0 || unit >= units.size());
        return work[unit];
    }

    int worst() {
        int best = -1;
        int most = 0;
        for (int h = 0; h < 24; h++) {
            int n = 0;
            for (Call c : calls) {
                if (isLate(c) && c.minute / 60 == h) {
                    n++;
                }
            }
            if (n > most) {
                most = n;
                best = h;
            }
        }
        return best;
    }

    int arrived(int minute) {
        range(minute < 0 || minute > 9999);
        int n = 0;
        for (Call c : calls) {
            if (c.unit != -1 && c.arrival <= minute) {
                n++;
            }
        }
        return n;
    }

    int unlucky(int variant, int seed, int n, int day, int count) {
        unknown(variant < 0 || variant > 3);
        range(n < 1 || n > 8 || day < 0 || day > 999 || count < 0 || count > 60);
        state(count > 0 && areas.isEmpty());
        int best = seed;
        int most = play(variant, seed, day, count);
        for (int k = 1; k < n; k++) {
            int late = play(variant, seed + k, day, count);
            if (late > most) {
                most = late;
                best = seed + k;
            }
        }
        forget();
        return best;
    }

    int compare(int variant, int other, int seed, int day, int n, int what) {
        unknown(variant < 0 || variant > 3 || other < 0 || other > 3 || what < 0 || what > 3);
        range(n < 1 || n > 20 || day < 0 || day > 999 || day + n - 1 > 999);
        state(areas.isEmpty());
        int fewer = 0;
        int more = 0;
        for (int d = day; d < day + n; d++) {
            int a = play(variant, seed, d, 12);
            int b = play(other, seed, d, 12);
            fewer += a < b ? 1 : 0;
            more += a > b ? 1 : 0;
        }
        forget();
        int heads = 0;
        int falls = 1 << (fewer + more);
        for (int fall = 0; fall < falls; fall++) {
            if (Integer.bitCount(fall) >= fewer) {
                heads++;
            }
        }
        int[] tail = lowest(heads, falls);
        return new int[] {fewer, more, tail[0], tail[1]}[what];
    }
}
