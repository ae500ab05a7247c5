import java.math.BigInteger;

/** The table of the winds and the checksum where they wrap around. */
public final class WrapAroundTest {
    private static final int WIND_MINUTES = 12;

    private static final Check check = new Check("wrap around");

    public static void main(String[] args) {
        windOfEachMinuteOfTheTable();
        windOfTheLastAndTheFirstMinute();
        windLongAfter();
        windSetForTheMinuteThatIs();
        ridesBeginAcrossTheWrap();
        arrivesAcrossTheWrap();
        adviseAcrossTheWrap();
        checksumOfNothing();
        checksumOfOnePlatform();
        checksumOfLittle();
        checksumWithNegativeNumbers();
        checksumOfAFullCanopy();
        check.end();
    }

    /** Platforms 0 and 1 with a line of 40 between them, which a wind of 6 closes; 60 down. */
    private static ZipCanopy oneLine() {
        ZipCanopy canopy = new ZipCanopy();
        canopy.build(0, 0, 60);
        canopy.build(40, 0, 0);
        canopy.span(0, 1, 120, 1);
        return canopy;
    }

    /** "in the minute m it is that with the number m by the remainder of 12". */
    private static void windOfEachMinuteOfTheTable() {
        for (int windy = 0; windy < WIND_MINUTES; windy++) {
            ZipCanopy canopy = oneLine();
            canopy.setWind(windy, 6);
            for (int minute = 0; minute < 4 * WIND_MINUTES; minute++) {
                boolean due = minute == windy || minute == windy + 12 || minute == windy + 24 || minute == windy + 36;
                check.same("wind in " + windy + ", closed in minute " + minute, canopy.line(0, 10), due ? 1 : 0);
                canopy.pass(1);
            }
        }
    }

    private static void windOfTheLastAndTheFirstMinute() {
        ZipCanopy canopy = oneLine();
        canopy.setWind(11, 6);
        canopy.pass(11);
        check.same("closed in minute 11", canopy.line(0, 10), 1);
        canopy.pass(1);
        check.same("open in minute 12", canopy.line(0, 10), 0);
        canopy.setWind(0, 6);
        check.same("closed in minute 12, with the wind of 0", canopy.line(0, 10), 1);
        canopy.pass(1);
        check.same("open in minute 13, with that of 1", canopy.line(0, 10), 0);
        canopy.pass(10);
        check.same("closed in minute 23", canopy.line(0, 10), 1);
        canopy.pass(1);
        check.same("closed in minute 24", canopy.line(0, 10), 1);
    }

    /** More than an 8-bit or a 15-bit number of minutes later. */
    private static void windLongAfter() {
        ZipCanopy canopy = oneLine();
        canopy.setWind(4, 6);
        int minute = 0;
        for (int i = 0; i < 350; i++) {
            canopy.pass(i % 2 == 0 ? 100 : 99);
            minute += i % 2 == 0 ? 100 : 99;
            if (i < 10 || i > 280) {
                check.same("closed in minute " + minute, canopy.line(0, 10), minute % 12 == 4 ? 1 : 0);
            }
        }
        check.isTrue("minute 32768 is over", minute > 32768);
        check.same("the minute", canopy.count(0), minute);
    }

    private static void windSetForTheMinuteThatIs() {
        ZipCanopy canopy = oneLine();
        canopy.pass(26);
        check.same("wind of the minute 26", canopy.setWind(2, 6), 0);
        check.same("closed in it", canopy.line(0, 10), 1);
        check.same("wind of 1", canopy.setWind(1, 6), 0);
        check.same("wind of 3", canopy.setWind(3, 6), 0);
        check.same("wind of 2", canopy.setWind(2, 5), 6);
        check.same("open in it", canopy.line(0, 10), 0);
    }

    /** Open in one minute of the table only, one begins a ride in it, whichever round it is. */
    private static void ridesBeginAcrossTheWrap() {
        for (int open = 0; open < WIND_MINUTES; open++) {
            ZipCanopy canopy = openOnlyIn(open);
            for (int i = 0; i < 4; i++) {
                canopy.come(0, 1, 120, 60);
            }
            for (int minute = 0; minute < 48; minute++) {
                canopy.pass(1);
                int rounds = minute < open ? 0 : (minute - open) / 12 + 1;
                check.same("open in " + open + ", rides behind minute " + minute, canopy.line(0, 8), rounds);
            }
        }
    }

    private static ZipCanopy openOnlyIn(int open) {
        ZipCanopy canopy = oneLine();
        for (int minute = 0; minute < WIND_MINUTES; minute++) {
            canopy.setWind(minute, minute == open ? 5 : 6);
        }
        return canopy;
    }

    /** The line of 40 takes (80 + 71) / 72 = 2 minutes. */
    private static void arrivesAcrossTheWrap() {
        ZipCanopy canopy = openOnlyIn(0);
        canopy.pass(1);
        canopy.come(0, 1, 120, 60);
        canopy.come(0, 1, 120, 60);
        for (int minute = 1; minute < 30; minute++) {
            check.same("minute " + minute + " arrives(0)", canopy.arrives(0), 14);
            check.same("minute " + minute + " arrives(1)", canopy.arrives(1), 26);
            canopy.pass(1);
        }
        ZipCanopy last = openOnlyIn(11);
        last.pass(12);
        last.come(0, 1, 120, 60);
        check.same("arrives of the last minute of the table", last.arrives(0), 25);
    }

    /** Open in 0 and 1 only: with one more trolley both leave in the next round, else a round apart. */
    private static void adviseAcrossTheWrap() {
        ZipCanopy canopy = openOnlyIn(0);
        canopy.setWind(1, 5);
        canopy.pass(2);
        canopy.come(0, 1, 120, 60);
        canopy.come(0, 1, 120, 60);
        // the second is down in minute 15, which is the 14th behind minute 2
        check.same("advise(13)", canopy.advise(13), -1);
        check.same("advise(14)", canopy.advise(14), 0);
        check.same("advise(24)", canopy.advise(24), 0);
        check.same("advise(25), when both are there without", canopy.advise(25), -1);
    }

    /** The numbers that a checksum is made of, put into it without wrapping around before the end. */
    private static final class Sum {
        private BigInteger d = BigInteger.valueOf(593);

        void put(int... numbers) {
            for (int x : numbers) {
                d = d.multiply(BigInteger.valueOf(31)).add(BigInteger.valueOf(x));
            }
        }

        /** As a 64-bit integer: the last 64 bits, the first of which tells the sign. */
        long wrapped() {
            BigInteger range = BigInteger.ONE.shiftLeft(64);
            BigInteger rest = d.mod(range);
            return rest.testBit(63) ? rest.subtract(range).longValueExact() : rest.longValueExact();
        }
    }

    private static void checksumOfNothing() {
        Sum sum = new Sum();
        sum.put(0, 0, 0, 0, 0, 0, 0, 0, 0, 0);
        sum.put(0, 0, 0, 0, 0, 0, 0, 0, 0, 0, 0, 0);
        ZipCanopy canopy = new ZipCanopy();
        check.same("digest of nothing", canopy.digest(), sum.wrapped());
        check.same("digest of nothing, as a number", canopy.digest(), -1091735276543017071L);
        check.same("digest of nothing, once more", canopy.digest(), -1091735276543017071L);
    }

    private static void checksumOfOnePlatform() {
        Sum sum = new Sum();
        sum.put(0, 1, 0, 0, 0, 0, 0, 0, 0, 0);
        sum.put(9, 8, 7, 6, 5, 4, 3, 2, 1, 0, 9, 1);
        sum.put(40, 0, 60, 0, -1, 0, 0, 0);
        ZipCanopy canopy = new ZipCanopy();
        canopy.build(40, 0, 60);
        int[] winds = {9, 8, 7, 6, 5, 4, 3, 2, 1, 0, 9, 1};
        for (int minute = 0; minute < WIND_MINUTES; minute++) {
            canopy.setWind(minute, winds[minute]);
        }
        check.same("digest of one platform", canopy.digest(), sum.wrapped());
    }

    /** Each number written out: what each call tells, in its place. */
    private static void checksumOfLittle() {
        ZipCanopy canopy = new ZipCanopy();
        canopy.build(3, 4, 50);
        canopy.build(13, 5, 20);
        canopy.span(0, 1, 90, 2);
        canopy.setWind(0, 9);
        canopy.setWind(11, 3);
        canopy.come(0, 1, 80, 9);
        canopy.come(1, 1, 70, 8);
        canopy.come(0, 1, 60, 7);
        Sum first = new Sum();
        first.put(0, 2, 1, 3, 2, 0, 1, 0, 2, 0);
        first.put(9, 0, 0, 0, 0, 0, 0, 0, 0, 0, 0, 3);
        first.put(3, 4, 50, 2, 0, 1, 0, 0, 0, 2);
        first.put(13, 5, 20, 0, -1, 0, 1, 1);
        first.put(0, 1, 90, 11, 30, 2, 2, 0, 0, 0, 1);
        first.put(80, 9, 1, 0, 0, -1, 0, 1, 0, 0, -1);
        first.put(70, 8, 1, 2, 1, -1, 0, 0, -1, 0, 0);
        first.put(60, 7, 1, 0, 0, -1, 0, 1, 0, 0, -1);
        check.same("digest in minute 0", canopy.digest(), first.wrapped());
        canopy.pass(2);
        Sum later = new Sum();
        later.put(2, 2, 1, 3, 1, 1, 1, 0, 2, 1);
        later.put(9, 0, 0, 0, 0, 0, 0, 0, 0, 0, 0, 3);
        later.put(3, 4, 50, 1, 2, 1, 0, 0, 2);
        later.put(13, 5, 20, 0, -1, 0, 1, 1);
        later.put(0, 1, 90, 11, 30, 2, 1, 1, 1, 0, 0);
        later.put(80, 9, 1, 1, -1, 0, 1, 0, -1, 1, -1);
        later.put(70, 8, 1, 2, 1, -1, 0, 0, -1, 0, 0);
        later.put(60, 7, 1, 0, 0, -1, 2, 1, 0, 0, -1);
        check.same("digest in minute 2", canopy.digest(), later.wrapped());
    }

    /** The last number is -1, and so are others: they are taken away, not put in as large numbers. */
    private static void checksumWithNegativeNumbers() {
        ZipCanopy canopy = new ZipCanopy();
        canopy.build(0, 0, 0);
        canopy.build(0, 1, 0);
        canopy.come(0, 1, 20, 1);
        canopy.pass(1);
        Sum sum = new Sum();
        sum.put(1, 2, 0, 1, 0, 0, 0, 1, 0, 0);
        sum.put(0, 0, 0, 0, 0, 0, 0, 0, 0, 0, 0, 0);
        sum.put(0, 0, 0, 0, -1, 0, 0, 0);
        sum.put(0, 1, 0, 0, -1, 0, 0, 0);
        sum.put(20, 1, 1, 3, -1, -1, 0, 0, -1, 0, -1);
        check.same("digest with one who is gone", canopy.digest(), sum.wrapped());
    }

    private static void checksumOfAFullCanopy() {
        int[] winds = new int[WIND_MINUTES];
        for (int i = 0; i < WIND_MINUTES; i++) {
            winds[i] = (7 * i + 2) % 8;
        }
        boolean below = false;
        boolean above = false;
        for (int passed = 1; passed <= 30; passed++) {
            ZipCanopy canopy = Scenes.full();
            canopy.pass(passed);
            long digest = canopy.digest();
            check.same("digest of the full canopy", digest, told(canopy, winds).wrapped());
            below |= digest < 0;
            above |= digest > 0;
        }
        check.isTrue("some digests are less than 0, and some are greater", below && above);
    }

    private static Sum told(ZipCanopy canopy, int[] winds) {
        Sum sum = new Sum();
        for (int what = 0; what <= 9; what++) {
            sum.put(canopy.count(what));
        }
        sum.put(winds);
        for (int i = 0; i < 8; i++) {
            for (int what = 0; what <= 7; what++) {
                sum.put(canopy.platform(i, what));
            }
            for (int place = 0; place < canopy.platform(i, 3); place++) {
                sum.put(canopy.queue(i, place));
            }
        }
        for (int i = 0; i < 12 * 11; i++) {
            sum.put(canopy.line(i / 11, i % 11));
        }
        for (int i = 0; i < 12 * 11; i++) {
            sum.put(canopy.rider(i / 11, i % 11));
        }
        return sum;
    }
}
