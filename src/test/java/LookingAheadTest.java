/** Promises 14 to 18: way, arrives, advise, mean, digest. */
public final class LookingAheadTest {
    private static final Class<IndexOutOfBoundsException> INDEX = IndexOutOfBoundsException.class;
    private static final Class<IllegalArgumentException> ARGUMENT = IllegalArgumentException.class;

    private static final Check check = new Check("looking ahead");

    public static void main(String[] args) {
        promise14Way();
        promise14LongestWay();
        promise14WayRefuses();
        promise15Arrives();
        promise15ArrivesAtTheEdge();
        promise15ArrivesRefuses();
        promise16Advise();
        promise16AdviseOfSeveral();
        promise16AdviseNotAFourth();
        promise16AdviseNone();
        promise16AdviseRefuses();
        promise17Mean();
        promise18Digest();
        check.end();
    }

    private static void promise14Way() {
        ZipCanopy canopy = new ZipCanopy();
        canopy.build(0, 0, 60);
        canopy.build(10, 0, 40);
        canopy.build(20, 0, 20);
        canopy.build(30, 0, 0);
        check.same("way without lines", canopy.way(0, 1, 50), -1);
        canopy.span(0, 1, 120, 1);
        canopy.span(1, 2, 100, 1);
        canopy.span(2, 3, 80, 1);
        canopy.span(0, 2, 60, 1);
        canopy.span(0, 3, 40, 1);
        check.same("way of 40 over one line", canopy.way(0, 3, 40), 1);
        check.same("way of 41 over two lines", canopy.way(0, 3, 41), 2);
        check.same("way of 60 over two lines", canopy.way(0, 3, 60), 2);
        check.same("way of 61 over three lines", canopy.way(0, 3, 61), 3);
        check.same("way of 80 over three lines", canopy.way(0, 3, 80), 3);
        check.same("way of 81, too heavy at last", canopy.way(0, 3, 81), -1);
        check.same("way of 100 to 2", canopy.way(0, 2, 100), 2);
        check.same("way of 101 to 2", canopy.way(0, 2, 101), -1);
        check.same("way of 120 to 1", canopy.way(0, 1, 120), 1);
        check.same("way of 20 to 1", canopy.way(0, 1, 20), 1);
        check.same("way uphill", canopy.way(1, 0, 50), -1);
        check.same("way to the same platform", canopy.way(1, 1, 50), 0);
        check.same("way to the same platform at the bottom", canopy.way(3, 3, 120), 0);
        for (int minute = 0; minute < 12; minute++) {
            canopy.setWind(minute, 9);
        }
        check.same("way in the wind", canopy.way(0, 3, 40), 1);
    }

    private static void promise14LongestWay() {
        ZipCanopy canopy = new ZipCanopy();
        for (int i = 0; i < 8; i++) {
            canopy.build(i, 0, 60 - i);
        }
        for (int i = 6; i >= 0; i--) {
            canopy.span(i, i + 1, 120, 1);
        }
        for (int from = 0; from < 8; from++) {
            for (int to = 0; to < 8; to++) {
                check.same("way from " + from + " to " + to, canopy.way(from, to, 50), to >= from ? to - from : -1);
            }
        }
    }

    private static void promise14WayRefuses() {
        ZipCanopy canopy = new ZipCanopy();
        canopy.build(0, 0, 60);
        canopy.build(10, 0, 40);
        check.refuses(canopy, INDEX, "way from -1", () -> canopy.way(-1, 1, 50));
        check.refuses(canopy, INDEX, "way from 2", () -> canopy.way(2, 1, 50));
        check.refuses(canopy, INDEX, "way to -1", () -> canopy.way(0, -1, 50));
        check.refuses(canopy, INDEX, "way to 2", () -> canopy.way(0, 2, 50));
        check.refuses(canopy, INDEX, "way to 2 of 19", () -> canopy.way(0, 2, 19));
        check.refuses(canopy, ARGUMENT, "way of 19", () -> canopy.way(0, 1, 19));
        check.refuses(canopy, ARGUMENT, "way of 121", () -> canopy.way(0, 1, 121));
        check.refuses(canopy, ARGUMENT, "way of 19 to the same platform", () -> canopy.way(0, 0, 19));
    }

    private static void promise15Arrives() {
        ZipCanopy canopy = new ZipCanopy();
        canopy.build(0, 0, 60);
        canopy.build(20, 0, 40);
        canopy.build(40, 0, 10);
        canopy.span(0, 1, 120, 1);
        canopy.span(1, 2, 120, 1);
        canopy.come(2, 2, 50, 5);
        canopy.come(0, 2, 50, 60);
        canopy.come(0, 2, 50, 60);
        canopy.come(0, 2, 50, 4);
        canopy.come(2, 0, 50, 60);
        int[] due = {0, 4, 8, -1, -1};
        // line 0 takes 2 minutes and 2 for the trolley, so rider 2 leaves in minute 4; rider 3 has gone by then
        for (int minute = 0; minute < 12; minute++) {
            long before = canopy.digest();
            for (int rider = 0; rider < 5; rider++) {
                check.same("minute " + minute + " arrives(" + rider + ")", canopy.arrives(rider), due[rider]);
            }
            check.isTrue("nothing is changed by arrives in minute " + minute, canopy.digest() == before);
            canopy.pass(1);
        }
        for (int rider = 0; rider < 5; rider++) {
            check.same("arrival of " + rider, canopy.rider(rider, 10), due[rider]);
        }
    }

    /** Two slow lines, of 108 and 106 minutes: the arrival is in minute 214. */
    private static void promise15ArrivesAtTheEdge() {
        ZipCanopy canopy = new ZipCanopy();
        canopy.build(0, 0, 2);
        canopy.build(40, 40, 1);
        canopy.build(0, 1, 0);
        canopy.span(0, 1, 120, 1);
        canopy.span(1, 2, 120, 1);
        check.same("the first ride", canopy.ride(0, 20), -108);
        check.same("the second ride", canopy.ride(1, 20), -106);
        canopy.come(0, 2, 20, 1);
        check.same("arrives in more than 200 minutes", canopy.arrives(0), -1);
        canopy.pass(14);
        check.same("arrives one minute too late", canopy.arrives(0), -1);
        canopy.pass(1);
        check.same("arrives in the last of 200 minutes", canopy.arrives(0), 214);
        check.same("under way", canopy.pass(100) + canopy.pass(99), 0);
        check.same("there", canopy.pass(1), 1);
        check.same("arrival", canopy.rider(0, 10), 214);
        check.same("arrives, long ago", canopy.arrives(0), 214);
    }

    private static void promise15ArrivesRefuses() {
        ZipCanopy canopy = new ZipCanopy();
        check.refuses(canopy, INDEX, "arrives(0) with nobody", () -> canopy.arrives(0));
        canopy.build(0, 0, 2);
        canopy.come(0, 0, 50, 5);
        check.refuses(canopy, INDEX, "arrives(-1)", () -> canopy.arrives(-1));
        check.refuses(canopy, INDEX, "arrives(1)", () -> canopy.arrives(1));
    }

    /** One rider for the short line 0, and three for the long line 1. */
    private static void promise16Advise() {
        ZipCanopy canopy = new ZipCanopy();
        canopy.build(0, 0, 60);
        canopy.build(1, 0, 50);
        canopy.build(40, 0, 20);
        canopy.span(0, 1, 120, 1);
        canopy.span(0, 2, 120, 1);
        canopy.come(0, 1, 50, 60);
        for (int i = 0; i < 3; i++) {
            canopy.come(0, 2, 50, 60);
        }
        // line 1: 40 long, 40 down: 2 minutes, and 4 for the trolley; rides begin in 0, 6, 12
        check.same("ride", canopy.ride(1, 50), 2);
        long before = canopy.digest();
        check.same("advise(1)", canopy.advise(1), -1);
        check.same("advise(2): one more there leaves in minute 1 only", canopy.advise(2), -1);
        // with one more: in 0, 1, 6; two are there in minute 3, not one
        check.same("advise(3): the second of them is there in minute 3 only", canopy.advise(3), -1);
        check.same("advise(4)", canopy.advise(4), 1);
        check.same("advise(8)", canopy.advise(8), 1);
        check.same("advise(9)", canopy.advise(9), 1);
        check.same("advise(15): all are there anyway", canopy.advise(15), -1);
        check.same("advise(14)", canopy.advise(14), 1);
        check.isTrue("nothing is changed by advise", canopy.digest() == before);
        canopy.add(1);
        check.same("advise(4) with two", canopy.advise(4), -1);
        check.same("advise(5) with two", canopy.advise(5), 1);
        canopy.add(1);
        check.same("advise(5) with three", canopy.advise(5), -1);
    }

    private static void promise16AdviseOfSeveral() {
        ZipCanopy canopy = new ZipCanopy();
        canopy.build(0, 0, 60);
        canopy.build(0, 10, 40);
        canopy.build(10, 0, 40);
        canopy.build(0, 20, 40);
        canopy.span(0, 3, 120, 3);
        canopy.span(0, 1, 120, 1);
        canopy.span(0, 2, 120, 1);
        for (int i = 0; i < 2; i++) {
            canopy.come(0, 1, 50, 60);
            canopy.come(0, 2, 50, 60);
        }
        // both lines: 1 minute, and 1 for the trolley: the second ones are there in minute 3, or else in minute 2
        check.same("of two that help alike, the smaller number", canopy.advise(3), 1);
        canopy.come(0, 2, 50, 60);
        check.same("advise(4)", canopy.advise(4), 2);
    }

    /** The line of 40 takes 2 minutes and 4 for the trolley: a fourth would bring a fourth rider in minute 5, not 8. */
    private static void promise16AdviseNotAFourth() {
        ZipCanopy canopy = new ZipCanopy();
        canopy.build(0, 0, 60);
        canopy.build(40, 0, 20);
        canopy.span(0, 1, 120, 3);
        for (int i = 0; i < 4; i++) {
            canopy.come(0, 1, 50, 60);
        }
        check.same("advise where 3 are", canopy.advise(6), -1);
        canopy.pass(6);
        check.same("riders there", canopy.count(6), 3);
    }

    private static void promise16AdviseNone() {
        ZipCanopy canopy = new ZipCanopy();
        check.same("advise without lines", canopy.advise(1), -1);
        canopy.build(0, 0, 60);
        canopy.build(0, 10, 40);
        canopy.span(0, 1, 120, 1);
        check.same("advise without riders", canopy.advise(30), -1);
        canopy.come(0, 1, 50, 60);
        canopy.come(0, 1, 50, 60);
        for (int minute = 0; minute < 12; minute++) {
            canopy.setWind(minute, 9);
        }
        check.same("advise in a storm", canopy.advise(30), -1);
    }

    private static void promise16AdviseRefuses() {
        ZipCanopy canopy = new ZipCanopy();
        check.refuses(canopy, ARGUMENT, "advise(0)", () -> canopy.advise(0));
        check.refuses(canopy, ARGUMENT, "advise(-1)", () -> canopy.advise(-1));
        check.refuses(canopy, ARGUMENT, "advise(31)", () -> canopy.advise(31));
    }

    private static void promise17Mean() {
        ZipCanopy canopy = new ZipCanopy();
        canopy.build(0, 0, 60);
        canopy.build(10, 0, 20);
        canopy.span(0, 1, 120, 1);
        check.sameDouble("mean of nobody", canopy.mean(), 0.0);
        canopy.come(0, 1, 50, 60);
        check.sameDouble("mean with one who waits", canopy.mean(), 0.0);
        canopy.come(0, 0, 50, 60);
        check.sameDouble("mean of one in minute 0", canopy.mean(), 0.0);
        canopy.pass(1);
        check.sameDouble("mean with one who rides", canopy.mean(), 0.0);
        canopy.pass(1);
        check.sameDouble("mean of 0 and 1", canopy.mean(), 0.5);
        canopy.come(1, 0, 50, 1);
        canopy.pass(98);
        check.sameDouble("mean with one who is gone", canopy.mean(), 0.5);
        canopy.come(1, 1, 50, 1);
        check.sameDouble("mean of 0, 1 and 100", canopy.mean(), 101.0 / 3);
    }

    private static void promise18Digest() {
        long d = 593;
        for (int i = 0; i < 22; i++) {
            d *= 31;
        }
        ZipCanopy canopy = new ZipCanopy();
        check.same("digest of a new one", canopy.digest(), d);
        canopy.build(0, 0, 60);
        canopy.build(20, 0, 40);
        canopy.build(40, 0, 10);
        check.same("digest with platforms", canopy.digest(), toldOf(canopy, new int[12]));
        int[] winds = new int[12];
        for (int minute = 0; minute < 12; minute++) {
            winds[minute] = (minute * 7 + 3) % 10;
        }
        // one canopy would be asked more often than the 512 times for which something is promised
        for (int minute = 1; minute < 60; minute++) {
            ZipCanopy asked = twelveOnTwoLines(winds);
            asked.pass(minute);
            check.same("digest in minute " + minute, asked.digest(), toldOf(asked, winds));
        }
    }

    private static ZipCanopy twelveOnTwoLines(int[] winds) {
        ZipCanopy canopy = new ZipCanopy();
        canopy.build(0, 0, 60);
        canopy.build(20, 0, 40);
        canopy.build(40, 0, 10);
        canopy.span(0, 1, 120, 1);
        canopy.span(1, 2, 120, 1);
        for (int i = 0; i < 12; i++) {
            canopy.setWind(i, winds[i]);
            canopy.come(i % 2, 1 + i % 2, 20 + 9 * i, 3 + 5 * i);
        }
        return canopy;
    }

    private static long toldOf(ZipCanopy canopy, int[] winds) {
        long d = 593;
        for (int what = 0; what <= 9; what++) {
            d = d * 31 + canopy.count(what);
        }
        for (int wind : winds) {
            d = d * 31 + wind;
        }
        for (int i = 0; i < canopy.count(1); i++) {
            for (int what = 0; what <= 7; what++) {
                d = d * 31 + canopy.platform(i, what);
            }
            for (int j = 0; j < canopy.platform(i, 3); j++) {
                d = d * 31 + canopy.queue(i, j);
            }
        }
        for (int i = 0; i < canopy.count(2); i++) {
            for (int what = 0; what <= 10; what++) {
                d = d * 31 + canopy.line(i, what);
            }
        }
        for (int i = 0; i < canopy.count(3); i++) {
            for (int what = 0; what <= 10; what++) {
                d = d * 31 + canopy.rider(i, what);
            }
        }
        return d;
    }
}
