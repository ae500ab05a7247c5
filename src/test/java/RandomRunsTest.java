import java.util.Arrays;
import java.util.Random;

/** All promises: runs of calls by chance (always the same ones), each answer compared with PlainCanopy. */
public final class RandomRunsTest {
    private static final int RUNS = 1200;
    /** As many as something is promised for, those of digest() that the test makes itself among them. */
    private static final int MOST_CALLS = 512;
    /** Far apart, for of seeds that are neighbours the first chance is always the same: all runs would reach far. */
    private static final long SEED_STEP = 0x9E3779B97F4A7C15L;
    private static final int KINDS = 27;
    private static final int BUILD = 0;
    private static final int SPAN = 1;
    private static final int COME = 4;
    private static final int ADVISE = 23;

    private interface Call {
        String answer();
    }

    private static final Check check = new Check("random runs");
    private static Random random;
    private static int arrived;
    private static int near;
    private static int stuck;
    private static int gone;
    private static int advised;

    public static void main(String[] args) {
        for (int run = 0; run < RUNS; run++) {
            random = new Random(run * SEED_STEP);
            oneRun(run);
        }
        check.isTrue("many arrived: " + arrived, arrived > RUNS);
        check.isTrue("many are of short lines, and many of long ones: " + near, near > RUNS / 3 && near < RUNS * 2 / 3);
        check.isTrue("many got stuck: " + stuck, stuck > RUNS / 4);
        check.isTrue("many are gone: " + gone, gone > RUNS);
        check.isTrue("much was advised: " + advised, advised > RUNS / 10);
        System.out.println("of " + RUNS + " runs: " + arrived + " arrived, " + stuck + " stuck, " + gone + " gone, "
                + advised + " advised");
        check.end();
    }

    private static void oneRun(int run) {
        ZipCanopy canopy = new ZipCanopy();
        PlainCanopy plain = new PlainCanopy();
        int reach = random.nextBoolean() ? 40 : 12;
        near += reach < 40 ? 1 : 0;
        int tall = random.nextBoolean() ? 60 : 15;
        int calls = run % 8 == 0 ? MOST_CALLS : 100;
        int digests = 0;
        int built = random.nextInt(9);
        int spanned = built + random.nextInt(16);
        int came = spanned + random.nextInt(14);
        for (int i = 0; i < calls && i + digests < MOST_CALLS - 1; i++) {
            int kind = i < built ? BUILD : i < spanned ? SPAN : i < came ? COME : i < came + 3 ? ADVISE
                    : random.nextInt(KINDS);
            int[] a = argumentsOf(kind, reach, tall, plain);
            String due = told(() -> answerOf(plain, kind, a));
            String got = told(() -> answerOf(canopy, kind, a));
            String call = "run " + run + ", call " + i + ", kind " + kind + " " + Arrays.toString(a);
            check.isTrue(call + " answered " + got + ", due is " + due, got.equals(due));
            if (kind == ADVISE && Character.isDigit(due.charAt(0))) {
                advised++;
            }
            if (i % 8 == 0 || due.startsWith("throws")) {
                check.same(call + ", then digest()", canopy.digest(), plain.digest());
                digests++;
            }
        }
        arrived += plain.count(6);
        gone += plain.count(7);
        for (int i = 0; i < plain.count(2); i++) {
            stuck += plain.line(i, 9);
        }
    }

    private static String told(Call call) {
        try {
            return call.answer();
        } catch (RuntimeException e) {
            return "throws " + e.getClass().getName();
        }
    }

    /** Mostly within the bounds, now and then just or far outside. */
    private static int some(int least, int most) {
        int chance = random.nextInt(60);
        if (chance == 0) {
            return least - 1;
        }
        if (chance == 1) {
            return most + 1;
        }
        if (chance == 2) {
            return random.nextInt();
        }
        if (chance < 6) {
            return least;
        }
        if (chance < 9) {
            return most;
        }
        return most < least ? least : least + random.nextInt(most - least + 1);
    }

    private static int[] argumentsOf(int kind, int reach, int tall, PlainCanopy plain) {
        int platforms = plain.count(1) - 1;
        int lines = plain.count(2) - 1;
        int riders = plain.count(3) - 1;
        switch (kind) {
            case 0:
                return new int[] {some(0, reach), some(0, reach), some(0, tall)};
            case 1:
            case 2:
                return joined(downhill(plain), some(20, 150), random.nextInt(3) > 0 ? 1 : some(1, 3));
            case 3:
                return new int[] {some(0, 11), some(0, 9)};
            case 4:
            case 5:
            case 6:
                return joined(downhill(plain), some(20, 120), some(1, 60));
            case 7:
                return new int[] {some(0, lines)};
            case 8:
                return new int[] {some(0, platforms), some(0, 7)};
            case 9:
            case 10:
                return new int[] {some(0, lines), some(0, 10)};
            case 11:
                return new int[] {some(0, lines), some(20, 120)};
            case 12:
            case 13:
                return new int[] {some(0, riders), some(0, 10)};
            case 14:
                return new int[] {some(0, platforms), some(0, 3)};
            case 15:
            case 16:
            case 17:
                return new int[] {some(1, 4)};
            case 18:
                return new int[] {some(1, random.nextInt(20) == 0 ? 100 : 10)};
            case 19:
                return new int[] {some(0, 9)};
            case 20:
                return new int[] {some(0, platforms), some(0, platforms), some(20, 120)};
            case 21:
            case 22:
                return new int[] {some(0, riders)};
            case 23:
            case 24:
                return new int[] {some(1, 30)};
            default:
                return new int[0];
        }
    }

    /** Two platforms, mostly an upper and a lower one, and often 0 or 1 first, so that queues grow. */
    private static int[] downhill(PlainCanopy plain) {
        int platforms = plain.count(1);
        int from = some(0, platforms - 1);
        int to = some(0, platforms - 1);
        boolean known = from >= 0 && from < platforms && to >= 0 && to < platforms;
        if (!known || random.nextInt(6) == 0) {
            return new int[] {from, to};
        }
        if (platforms > 2 && random.nextInt(3) == 0) {
            from = random.nextInt(2);
        }
        return plain.platform(from, 2) > plain.platform(to, 2) ? new int[] {from, to} : new int[] {to, from};
    }

    private static int[] joined(int[] two, int third, int fourth) {
        return new int[] {two[0], two[1], third, fourth};
    }

    private static String answerOf(PlainCanopy c, int kind, int[] a) {
        switch (kind) {
            case 0: return "" + c.build(a[0], a[1], a[2]);
            case 1: case 2: return "" + c.span(a[0], a[1], a[2], a[3]);
            case 3: return "" + c.setWind(a[0], a[1]);
            case 4: case 5: case 6: return "" + c.come(a[0], a[1], a[2], a[3]);
            case 7: return "" + c.add(a[0]);
            case 8: return "" + c.platform(a[0], a[1]);
            case 9: case 10: return "" + c.line(a[0], a[1]);
            case 11: return "" + c.ride(a[0], a[1]);
            case 12: case 13: return "" + c.rider(a[0], a[1]);
            case 14: return "" + c.queue(a[0], a[1]);
            case 15: case 16: case 17: case 18: return "" + c.pass(a[0]);
            case 19: return "" + c.count(a[0]);
            case 20: return "" + c.way(a[0], a[1], a[2]);
            case 21: case 22: return "" + c.arrives(a[0]);
            case 23: case 24: return "" + c.advise(a[0]);
            case 25: return "" + c.mean();
            default: return "" + c.digest();
        }
    }

    private static String answerOf(ZipCanopy c, int kind, int[] a) {
        switch (kind) {
            case 0: return "" + c.build(a[0], a[1], a[2]);
            case 1: case 2: return "" + c.span(a[0], a[1], a[2], a[3]);
            case 3: return "" + c.setWind(a[0], a[1]);
            case 4: case 5: case 6: return "" + c.come(a[0], a[1], a[2], a[3]);
            case 7: return "" + c.add(a[0]);
            case 8: return "" + c.platform(a[0], a[1]);
            case 9: case 10: return "" + c.line(a[0], a[1]);
            case 11: return "" + c.ride(a[0], a[1]);
            case 12: case 13: return "" + c.rider(a[0], a[1]);
            case 14: return "" + c.queue(a[0], a[1]);
            case 15: case 16: case 17: case 18: return "" + c.pass(a[0]);
            case 19: return "" + c.count(a[0]);
            case 20: return "" + c.way(a[0], a[1], a[2]);
            case 21: case 22: return "" + c.arrives(a[0]);
            case 23: case 24: return "" + c.advise(a[0]);
            case 25: return "" + c.mean();
            default: return "" + c.digest();
        }
    }
}
