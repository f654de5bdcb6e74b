import java.util.Random;

/** Long runs of calls, right and wrong ones mixed, on the class and on SlowService alike. */
public final class ModelTest {
    private static final int OBJECTS = 300;
    private static final int CALLS = 512;

    private final Random random;
    private final DaySimulate fast = new DaySimulate();
    private final SlowService slow = new SlowService();
    /** How often of a hundred a number is drawn from beside its range. */
    private final int wrongs;
    private String told = "";

    private ModelTest(int number) {
        random = new Random(number);
        wrongs = number % 4 == 0 ? 15 : 2;
        int setUp = number % 3;
        for (int k = 0; k < 6 * setUp; k++) {
            one(k % 3);
        }
    }

    public static void main(String[] args) {
        for (int number = 0; number < OBJECTS; number++) {
            ModelTest test = new ModelTest(number);
            for (int k = 0; k < CALLS - 12; k++) {
                test.told = "object " + number + ", call " + k + ": ";
                test.one(test.kind());
            }
        }
        Check.finish();
    }

    private int kind() {
        int r = random.nextInt(100);
        if (r < 12) {
            return r % 3;
        }
        if (r < 20) {
            return 3;
        }
        if (r < 24) {
            return 4;
        }
        if (r < 36) {
            return 5;
        }
        if (r < 38) {
            return 13;
        }
        if (r < 40) {
            return 14;
        }
        return 6 + random.nextInt(7);
    }

    private int number(int least, int most) {
        int r = random.nextInt(100);
        if (r < wrongs) {
            int[] beside = {least - 1, most + 1, Integer.MIN_VALUE, Integer.MAX_VALUE, least - 2};
            return beside[random.nextInt(beside.length)];
        }
        if (r < wrongs + 5) {
            return random.nextBoolean() ? least : most;
        }
        return least + random.nextInt(most - least + 1);
    }

    private int seed() {
        int r = random.nextInt(10);
        return r == 0 ? Integer.MAX_VALUE - random.nextInt(4) : r == 1 ? -random.nextInt(9) : random.nextInt();
    }

    private int count() {
        return random.nextInt(8) == 0 ? 0 : number(0, 60);
    }

    private void one(int kind) {
        int a;
        int b;
        int c;
        switch (kind) {
            case 0:
                a = number(0, 99);
                b = number(0, 99);
                both("station(" + a + ", " + b + ")", () -> fast.station(a, b), () -> slow.station(a, b));
                break;
            case 1:
                a = number(0, 99);
                b = number(0, 99);
                c = number(1, 50);
                both("area(" + a + ", " + b + ", " + c + ")", () -> fast.area(a, b, c), () -> slow.area(a, b, c));
                break;
            case 2:
                a = number(0, 5);
                both("unit(" + a + ")", () -> fast.unit(a), () -> slow.unit(a));
                break;
            case 3:
                a = number(1, 3);
                b = number(0, random.nextInt(12));
                c = number(-1, random.nextInt(6));
                both("change(" + a + ", " + b + ", " + c + ")", () -> {
                    fast.change(a, b, c);
                    return 0;
                }, () -> {
                    slow.change(a, b, c);
                    return 0;
                });
                break;
            case 4:
                a = number(1, 9);
                b = random.nextInt(6) == 0 ? number(0, 1000) : number(0, 40);
                both("rules(" + a + ", " + b + ")", () -> {
                    fast.rules(a, b);
                    return 0;
                }, () -> {
                    slow.rules(a, b);
                    return 0;
                });
                break;
            default:
                ask(kind);
        }
    }

    private void ask(int kind) {
        int a = number(0, 3);
        int day = number(0, 999);
        int count = count();
        int seed = seed();
        int i = number(0, 59);
        int what = number(0, 5);
        int half = number(0, 1);
        int unit = number(0, 11);
        int minute = random.nextInt(2) == 0 ? number(0, 9999) : number(0, 1600);
        switch (kind) {
            case 5:
                both("run(" + a + ", " + seed + ", " + day + ", " + count + ")",
                        () -> fast.run(a, seed, day, count), () -> slow.run(a, seed, day, count));
                break;
            case 6:
                both("call(" + i + ", " + what + ")", () -> fast.call(i, what), () -> slow.call(i, what));
                break;
            case 7:
                both("share(" + half + ")", () -> fast.share(half), () -> slow.share(half));
                break;
            case 8:
                both("mean()", fast::mean, slow::mean);
                break;
            case 9:
                both("missed()", fast::missed, slow::missed);
                break;
            case 10:
                both("work(" + unit + ")", () -> fast.work(unit), () -> slow.work(unit));
                break;
            case 11:
                both("worst()", fast::worst, slow::worst);
                break;
            case 12:
                both("arrived(" + minute + ")", () -> fast.arrived(minute), () -> slow.arrived(minute));
                break;
            case 13:
                unlucky(a, seed, day, count);
                break;
            default:
                compare(a, seed, day);
        }
    }

    private void unlucky(int variant, int seed, int day, int count) {
        int n = number(1, 8);
        both("unlucky(" + variant + ", " + seed + ", " + n + ", " + day + ", " + count + ")",
                () -> fast.unlucky(variant, seed, n, day, count), () -> slow.unlucky(variant, seed, n, day, count));
    }

    private void compare(int variant, int seed, int day) {
        int other = number(0, 3);
        int n = number(1, 20);
        int what = number(0, 3);
        both("compare(" + variant + ", " + other + ", " + seed + ", " + day + ", " + n + ", " + what + ")",
                () -> fast.compare(variant, other, seed, day, n, what),
                () -> slow.compare(variant, other, seed, day, n, what));
    }

    private void both(String call, Check.Answer got, Check.Answer want) {
        Check.same(told + call, answer(want), answer(got));
    }

    private static String answer(Check.Answer answer) {
        try {
            return Long.toString(answer.get());
        } catch (RuntimeException e) {
            return Check.name(e);
        }
    }
}
