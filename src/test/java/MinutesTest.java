/** Promises 12 and 13: pass, with the steps of a minute, and count. */
public final class MinutesTest {
    private static final Class<IndexOutOfBoundsException> INDEX = IndexOutOfBoundsException.class;
    private static final Class<IllegalArgumentException> ARGUMENT = IllegalArgumentException.class;

    private static final int WAITS = 0;
    private static final int RIDES = 1;
    private static final int ARRIVED = 2;
    private static final int GONE = 3;

    private static final Check check = new Check("minutes");

    public static void main(String[] args) {
        promise12Pass();
        promise12PassRefuses();
        promise12OrderOfTrolleysOfALine();
        promise12OrderOfTrolleysOfManyLines();
        promise12OneRiderForEachLine();
        promise12FirstWhoseWayBegins();
        promise12TrolleyIsPulledUp();
        promise12TrolleyOfTheSameMinute();
        promise12NextLineInTheSameMinute();
        promise12ClosedLines();
        promise12RideGoesOnInAStorm();
        promise12Patience();
        promise12PatienceStartsAnew();
        promise12FewestLinesThoughSlow();
        promise13Count();
        promise13CountRefuses();
        check.end();
    }

    private static void promise12Pass() {
        ZipCanopy canopy = new ZipCanopy();
        canopy.build(0, 0, 50);
        canopy.build(10, 0, 20);
        canopy.span(0, 1, 120, 1);
        check.same("pass(100) with nobody", canopy.pass(100), 0);
        check.same("the minute", canopy.count(0), 100);
        canopy.come(1, 1, 50, 5);
        for (int i = 0; i < 4; i++) {
            canopy.come(0, 1, 50, 60);
        }
        // each rides 1 minute, the trolley is pulled up for 1: they leave in 100, 102, 104, 106
        check.same("pass(1) with the first under way", canopy.pass(1), 0);
        check.same("pass(1) with the first there", canopy.pass(1), 1);
        check.same("pass(4) with two there", canopy.pass(4), 2);
        check.same("the minute", canopy.count(0), 106);
        check.same("pass(1)", canopy.pass(1), 0);
        check.same("pass(93)", canopy.pass(93), 1);
        for (int i = 1; i < 5; i++) {
            check.same("arrival of " + i, canopy.rider(i, 10), 99 + 2 * i);
        }
        check.same("the minute", canopy.count(0), 200);
    }

    private static void promise12PassRefuses() {
        ZipCanopy canopy = new ZipCanopy();
        check.refuses(canopy, ARGUMENT, "pass(0)", () -> canopy.pass(0));
        check.refuses(canopy, ARGUMENT, "pass(-1)", () -> canopy.pass(-1));
        check.refuses(canopy, ARGUMENT, "pass(101)", () -> canopy.pass(101));
        check.refuses(canopy, ARGUMENT, "pass of the least int", () -> canopy.pass(Integer.MIN_VALUE));
        check.refuses(canopy, ARGUMENT, "pass of the greatest int", () -> canopy.pass(Integer.MAX_VALUE));
    }

    /** Three of one line come down in one minute: they wait in the order in which they left. */
    private static void promise12OrderOfTrolleysOfALine() {
        ZipCanopy canopy = new ZipCanopy();
        canopy.build(0, 0, 60);
        canopy.build(20, 0, 58);
        canopy.build(20, 1, 0);
        canopy.span(0, 1, 120, 3);
        // a drop of 2 and 20 long: 100 and more do not get stuck
        check.same("ride of 100", canopy.ride(0, 100), 4);
        check.same("ride of 120", canopy.ride(0, 120), 3);
        check.same("ride of 20", canopy.ride(0, 20), -20);
        canopy.span(1, 2, 120, 1);
        canopy.come(0, 2, 100, 60);
        canopy.come(0, 2, 120, 60);
        canopy.setWind(4, 9);
        canopy.setWind(5, 9);
        // both come down in minute 4, rider 0, who left first, stands first; line 1 is only 1 long
        canopy.pass(4);
        check.same("rides in minute 4", canopy.line(0, 7), 2);
        canopy.pass(1);
        check.same("first of the two takes the next line", canopy.rider(0, 3), RIDES);
        check.same("second of the two waits", canopy.rider(1, 3), WAITS);
        check.same("second of the two waited", canopy.rider(1, 6), 1);

        ZipCanopy other = new ZipCanopy();
        other.build(0, 0, 60);
        other.build(20, 0, 58);
        other.span(0, 1, 120, 3);
        other.build(20, 40, 0);
        other.span(1, 2, 120, 1);
        for (int i = 0; i < 12; i++) {
            other.setWind(i, 6);
        }
        other.come(0, 2, 20, 60);
        other.come(0, 2, 120, 60);
        other.pass(21);
        check.same("the one who left later comes down first", other.queue(1, 0), 1);
        check.same("the slow one comes down later", other.queue(1, 1), 0);
    }

    private static void promise12OrderOfTrolleysOfManyLines() {
        ZipCanopy canopy = new ZipCanopy();
        canopy.build(0, 20, 60);
        canopy.build(40, 20, 60);
        canopy.build(20, 20, 30);
        canopy.build(20, 0, 0);
        canopy.span(0, 2, 120, 1);
        canopy.span(1, 2, 120, 1);
        canopy.span(2, 3, 120, 1);
        for (int i = 0; i < 12; i++) {
            canopy.setWind(i, 7);
        }
        canopy.come(1, 3, 100, 60);
        canopy.come(0, 3, 100, 60);
        canopy.setWind(2, 8);
        // both ride 1 minute: come down in minute 1, where line 0 is asked before line 1
        canopy.pass(1);
        check.same("rides at once", canopy.count(5), 2);
        canopy.pass(1);
        check.same("of line 0", canopy.rider(1, 5), 2);
        check.same("of line 1", canopy.queue(2, 0), 0);
    }

    private static void promise12OneRiderForEachLine() {
        ZipCanopy canopy = new ZipCanopy();
        canopy.build(0, 0, 60);
        canopy.build(10, 0, 0);
        canopy.span(0, 1, 120, 3);
        canopy.span(0, 1, 120, 3);
        canopy.come(0, 1, 50, 60);
        canopy.come(0, 1, 50, 60);
        canopy.come(0, 1, 50, 60);
        canopy.pass(1);
        check.same("one leaves in a minute, though 3 trolleys are there", canopy.line(0, 8), 1);
        check.same("a line beside with a greater number is nobody's way", canopy.line(1, 8), 0);
        canopy.pass(1);
        check.same("the second leaves a minute later", canopy.line(0, 8), 2);
        check.same("the third waits", canopy.rider(2, 3), WAITS);
    }

    private static void promise12FirstWhoseWayBegins() {
        ZipCanopy canopy = new ZipCanopy();
        canopy.build(0, 0, 60);
        canopy.build(10, 0, 20);
        canopy.build(0, 10, 0);
        canopy.span(0, 1, 70, 1);
        canopy.span(0, 2, 120, 1);
        canopy.span(0, 1, 120, 1);
        canopy.come(0, 2, 50, 60);
        canopy.come(0, 2, 50, 60);
        canopy.come(0, 1, 71, 60);
        canopy.come(0, 1, 70, 60);
        canopy.pass(1);
        check.same("line 1 takes the first for it", canopy.rider(0, 5), 1);
        check.same("the second for line 1 waits", canopy.rider(1, 3), WAITS);
        check.same("line 2 takes the heavy one", canopy.rider(2, 5), 2);
        check.same("line 0 takes the one whom it carries", canopy.rider(3, 5), 0);
    }

    private static void promise12TrolleyIsPulledUp() {
        for (int length = 1; length <= 40; length++) {
            ZipCanopy canopy = new ZipCanopy();
            canopy.build(0, 0, 60);
            canopy.build(length, 0, 0);
            canopy.span(0, 1, 120, 1);
            canopy.come(0, 1, 120, 60);
            canopy.come(0, 1, 120, 60);
            int ride = (2 * length + 71) / 72;
            int pull = length <= 10 ? 1 : length <= 20 ? 2 : length <= 30 ? 3 : 4;
            canopy.pass(ride);
            check.same("rides over " + length, canopy.line(0, 7), 1);
            canopy.pass(1);
            check.same("is down over " + length, canopy.line(0, 7), 0);
            check.same("is not at the top over " + length, canopy.line(0, 6), 0);
            if (pull > 1) {
                canopy.pass(pull - 1);
            }
            check.same("is pulled up over " + length, canopy.line(0, 5) - canopy.line(0, 6), 1);
            check.same("one ride over " + length, canopy.line(0, 8), 1);
            canopy.pass(1);
            check.same("the next ride over " + length, canopy.line(0, 8), 2);
            check.same("the next ride has the whole way over " + length, canopy.rider(1, 6), ride);
        }
    }

    /** A trolley that is at the top again in step 1 is taken in step 2 of the same minute. */
    private static void promise12TrolleyOfTheSameMinute() {
        ZipCanopy canopy = new ZipCanopy();
        canopy.build(0, 0, 60);
        canopy.build(10, 0, 0);
        canopy.span(0, 1, 120, 1);
        canopy.come(0, 1, 50, 60);
        canopy.come(0, 1, 50, 60);
        canopy.pass(2);
        check.same("in minute 1 it is pulled up", canopy.line(0, 8), 1);
        canopy.pass(1);
        check.same("in minute 2 it is taken", canopy.line(0, 8), 2);
        check.same("in minute 2 it is not at the top any more", canopy.line(0, 6), 0);
    }

    private static void promise12NextLineInTheSameMinute() {
        ZipCanopy canopy = new ZipCanopy();
        canopy.build(0, 0, 60);
        canopy.build(10, 0, 40);
        canopy.build(20, 0, 20);
        // the line from the middle has the smaller number, and still comes behind all trolleys
        canopy.span(1, 2, 120, 1);
        canopy.span(0, 1, 120, 1);
        canopy.come(0, 2, 50, 1);
        canopy.pass(1);
        check.same("on the first line", canopy.rider(0, 5), 1);
        canopy.pass(1);
        check.same("on the next line in the minute of coming down", canopy.rider(0, 5), 0);
        check.same("lines taken", canopy.rider(0, 9), 2);
        check.same("and there", canopy.pass(1), 1);
        check.same("arrival", canopy.rider(0, 10), 2);
    }

    private static void promise12ClosedLines() {
        ZipCanopy canopy = new ZipCanopy();
        canopy.build(0, 0, 60);
        canopy.build(40, 0, 0);
        canopy.build(32, 0, 0);
        canopy.span(0, 1, 120, 1);
        canopy.span(0, 2, 120, 1);
        for (int minute = 0; minute < 12; minute++) {
            canopy.setWind(minute, 6);
        }
        canopy.setWind(3, 5);
        canopy.come(0, 1, 50, 60);
        canopy.come(0, 2, 50, 60);
        canopy.pass(1);
        check.same("40 is more than 80 less 48", canopy.rider(0, 3), WAITS);
        check.same("32 is not", canopy.rider(1, 3), RIDES);
        canopy.pass(2);
        check.same("still closed", canopy.rider(0, 3), WAITS);
        canopy.pass(1);
        check.same("open in minute 3", canopy.rider(0, 3), RIDES);
        canopy.pass(11);
        canopy.come(0, 1, 50, 60);
        canopy.pass(1);
        check.same("open again in minute 15", canopy.rider(2, 3), RIDES);
        check.same("the minute of it", canopy.count(0), 16);
    }

    /** Nobody takes a closed line, but who is on it goes on, and an empty trolley comes up. */
    private static void promise12RideGoesOnInAStorm() {
        ZipCanopy canopy = new ZipCanopy();
        canopy.build(0, 0, 60);
        canopy.build(40, 40, 30);
        canopy.span(0, 1, 120, 1);
        for (int minute = 1; minute < 12; minute++) {
            canopy.setWind(minute, 9);
        }
        canopy.come(0, 1, 100, 60);
        check.same("ride", canopy.ride(0, 100), 4);
        canopy.pass(4);
        check.same("is there", canopy.pass(1), 1);
        canopy.pass(8);
        check.same("is up", canopy.line(0, 6), 1);
    }

    private static void promise12Patience() {
        ZipCanopy canopy = new ZipCanopy();
        canopy.build(0, 0, 60);
        canopy.build(10, 0, 0);
        canopy.span(0, 1, 120, 1);
        for (int minute = 0; minute < 12; minute++) {
            canopy.setWind(minute, 9);
        }
        canopy.come(0, 1, 50, 1);
        canopy.come(0, 1, 50, 2);
        canopy.come(0, 1, 50, 60);
        canopy.pass(1);
        check.same("patience 1 after 1 minute", canopy.rider(0, 3), GONE);
        check.same("patience 2 after 1 minute", canopy.rider(1, 3), WAITS);
        canopy.pass(1);
        check.same("patience 2 after 2 minutes", canopy.rider(1, 3), GONE);
        canopy.pass(57);
        check.same("patience 60 after 59 minutes", canopy.rider(2, 3), WAITS);
        check.same("has waited", canopy.rider(2, 6), 59);
        canopy.setWind(11, 0);
        canopy.pass(1);
        check.same("patience 60, and the line is open in the last minute", canopy.rider(2, 3), RIDES);
        check.same("nobody waits", canopy.platform(0, 3), 0);
    }

    private static void promise12PatienceStartsAnew() {
        ZipCanopy canopy = new ZipCanopy();
        canopy.build(0, 0, 60);
        canopy.build(8, 0, 40);
        canopy.build(18, 0, 20);
        canopy.span(0, 1, 120, 1);
        canopy.span(1, 2, 120, 1);
        for (int minute = 0; minute < 12; minute++) {
            canopy.setWind(minute, 9);
        }
        canopy.come(0, 2, 50, 3);
        canopy.come(0, 2, 50, 3);
        // rider 1 waits 2 minutes for the trolley, and all 3 minutes again further down
        canopy.pass(3);
        check.same("rider 1 leaves in minute 2", canopy.rider(1, 3), RIDES);
        check.same("rider 0 came down in minute 1", canopy.rider(0, 6), 2);
        canopy.pass(1);
        check.same("rider 0 is gone behind minute 3", canopy.rider(0, 3), GONE);
        check.same("rider 1 waits anew", canopy.rider(1, 6), 1);
        canopy.pass(1);
        check.same("rider 1 waits still", canopy.rider(1, 3), WAITS);
        canopy.pass(1);
        check.same("rider 1 is gone", canopy.rider(1, 3), GONE);
    }

    private static void promise12FewestLinesThoughSlow() {
        ZipCanopy canopy = new ZipCanopy();
        canopy.build(0, 0, 60);
        canopy.build(1, 0, 30);
        canopy.build(40, 40, 0);
        canopy.span(0, 1, 120, 1);
        canopy.span(1, 2, 120, 1);
        canopy.span(0, 2, 120, 1);
        for (int minute = 0; minute < 12; minute++) {
            canopy.setWind(minute, 1);
        }
        canopy.come(0, 2, 120, 5);
        canopy.pass(1);
        check.same("waits for the one line, though it is closed", canopy.rider(0, 3), WAITS);
        canopy.pass(4);
        check.same("and goes without taking two others", canopy.rider(0, 3), GONE);
    }

    private static void promise13Count() {
        ZipCanopy canopy = new ZipCanopy();
        canopy.build(0, 0, 60);
        canopy.build(20, 0, 40);
        canopy.build(40, 0, 10);
        canopy.span(0, 1, 120, 2);
        canopy.span(1, 2, 120, 3);
        canopy.come(0, 2, 50, 60);
        canopy.come(0, 2, 60, 60);
        canopy.come(2, 2, 70, 60);
        canopy.come(2, 0, 80, 60);
        counts(canopy, 0, 3, 2, 4, 3, 0, 1, 0, 5, 0);
        canopy.pass(1);
        counts(canopy, 1, 3, 2, 4, 1, 1, 1, 1, 5, 1);
        canopy.add(0);
        canopy.pass(1);
        // line 0: (40 + 24) / 25 = 2 minutes; line 1: (40 + 34) / 35 = 2
        counts(canopy, 2, 3, 2, 4, 0, 2, 1, 1, 6, 2);
        canopy.pass(1);
        counts(canopy, 3, 3, 2, 4, 0, 2, 1, 1, 6, 3);
        canopy.pass(1);
        counts(canopy, 4, 3, 2, 4, 0, 2, 1, 1, 6, 4);
        canopy.pass(1);
        counts(canopy, 5, 3, 2, 4, 0, 1, 2, 1, 6, 4);
        canopy.pass(1);
        counts(canopy, 6, 3, 2, 4, 0, 0, 3, 1, 6, 4);
        check.same("state of the one who arrived", canopy.rider(0, 3), ARRIVED);
    }

    private static void counts(ZipCanopy canopy, int... due) {
        for (int what = 0; what < due.length; what++) {
            check.same("minute " + due[0] + " count(" + what + ")", canopy.count(what), due[what]);
        }
    }

    private static void promise13CountRefuses() {
        ZipCanopy canopy = new ZipCanopy();
        check.refuses(canopy, INDEX, "count(-1)", () -> canopy.count(-1));
        check.refuses(canopy, INDEX, "count(10)", () -> canopy.count(10));
        check.refuses(canopy, INDEX, "count of the least int", () -> canopy.count(Integer.MIN_VALUE));
        check.refuses(canopy, INDEX, "count of the greatest int", () -> canopy.count(Integer.MAX_VALUE));
    }
}
