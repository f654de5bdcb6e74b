/** A call written as a text ("run 0 42 17 12"), made on the class or on SlowService. */
final class Asked {
    private Asked() {
    }

    /** What the call answers, or the name of what it throws. */
    static String of(DaySimulate d, String call) {
        try {
            return make(d, name(call), numbers(call));
        } catch (RuntimeException e) {
            return Check.name(e);
        }
    }

    static String of(SlowService s, String call) {
        try {
            return make(s, name(call), numbers(call));
        } catch (RuntimeException e) {
            return Check.name(e);
        }
    }

    /** A new object on which these calls were made. */
    static DaySimulate after(String... calls) {
        DaySimulate d = new DaySimulate();
        for (String call : calls) {
            of(d, call);
        }
        return d;
    }

    static SlowService slowAfter(String... calls) {
        SlowService s = new SlowService();
        for (String call : calls) {
            of(s, call);
        }
        return s;
    }

    private static String name(String call) {
        return call.split(" ")[0];
    }

    private static int[] numbers(String call) {
        String[] parts = call.split(" ");
        int[] numbers = new int[parts.length - 1];
        for (int k = 1; k < parts.length; k++) {
            numbers[k - 1] = Integer.parseInt(parts[k]);
        }
        return numbers;
    }

    private static String make(DaySimulate d, String name, int[] a) {
        switch (name) {
            case "change":
                d.change(a[0], a[1], a[2]);
                return "done";
            case "rules":
                d.rules(a[0], a[1]);
                return "done";
            default:
                return Integer.toString(answer(d, name, a));
        }
    }

    private static int answer(DaySimulate d, String name, int[] a) {
        switch (name) {
            case "station": return d.station(a[0], a[1]);
            case "area": return d.area(a[0], a[1], a[2]);
            case "unit": return d.unit(a[0]);
            case "run": return d.run(a[0], a[1], a[2], a[3]);
            case "call": return d.call(a[0], a[1]);
            case "share": return d.share(a[0]);
            case "mean": return d.mean();
            case "missed": return d.missed();
            case "work": return d.work(a[0]);
            case "worst": return d.worst();
            case "arrived": return d.arrived(a[0]);
            case "unlucky": return d.unlucky(a[0], a[1], a[2], a[3], a[4]);
            case "compare": return d.compare(a[0], a[1], a[2], a[3], a[4], a[5]);
            default: throw new Error("no call " + name);
        }
    }

    private static String make(SlowService s, String name, int[] a) {
        switch (name) {
            case "change":
                s.change(a[0], a[1], a[2]);
                return "done";
            case "rules":
                s.rules(a[0], a[1]);
                return "done";
            default:
                return Integer.toString(answer(s, name, a));
        }
    }

    private static int answer(SlowService s, String name, int[] a) {
        switch (name) {
            case "station": return s.station(a[0], a[1]);
            case "area": return s.area(a[0], a[1], a[2]);
            case "unit": return s.unit(a[0]);
            case "run": return s.run(a[0], a[1], a[2], a[3]);
            case "call": return s.call(a[0], a[1]);
            case "share": return s.share(a[0]);
            case "mean": return s.mean();
            case "missed": return s.missed();
            case "work": return s.work(a[0]);
            case "worst": return s.worst();
            case "arrived": return s.arrived(a[0]);
            case "unlucky": return s.unlucky(a[0], a[1], a[2], a[3], a[4]);
            case "compare": return s.compare(a[0], a[1], a[2], a[3], a[4], a[5]);
            default: throw new Error("no call " + name);
        }
    }
}
