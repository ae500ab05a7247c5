/** Promises 1 to 8: a new object, build, span, add, setWind, platform, line, ride. */
public final class PlatformsAndLinesTest {
    private static final Class<IndexOutOfBoundsException> INDEX = IndexOutOfBoundsException.class;
    private static final Class<IllegalArgumentException> ARGUMENT = IllegalArgumentException.class;
    private static final Class<IllegalStateException> STATE = IllegalStateException.class;

    private static final Check check = new Check("platforms and lines");

    public static void main(String[] args) {
        promise1NewObject();
        promise2Build();
        promise2BuildRefuses();
        promise3Span();
        promise3SpanRefuses();
        promise4Add();
        promise5SetWind();
        promise6Platform();
        promise7Line();
        promise7LineClosed();
        promise8Ride();
        check.end();
    }

    private static void promise1NewObject() {
        ZipCanopy canopy = new ZipCanopy();
        for (int what = 0; what < 10; what++) {
            check.same("new count(" + what + ")", canopy.count(what), 0);
        }
        check.sameDouble("new mean()", canopy.mean(), 0.0);
        check.refuses(canopy, INDEX, "new platform(0, 0)", () -> canopy.platform(0, 0));
        check.refuses(canopy, INDEX, "new line(0, 0)", () -> canopy.line(0, 0));
        check.refuses(canopy, INDEX, "new rider(0, 0)", () -> canopy.rider(0, 0));
        check.same("new pass(100)", canopy.pass(100), 0);
        check.same("new advise(30)", canopy.advise(30), -1);
        ZipCanopy other = new ZipCanopy();
        other.build(1, 2, 3);
        check.same("platforms of the one after build in another", canopy.count(1), 0);
    }

    private static void promise2Build() {
        ZipCanopy canopy = new ZipCanopy();
        check.same("build at the least edges", canopy.build(0, 0, 0), 0);
        check.same("build at the greatest edges", canopy.build(40, 40, 60), 1);
        check.same("build at 0, 40", canopy.build(0, 40, 0), 2);
        check.same("build at 40, 0", canopy.build(40, 0, 60), 3);
        for (int i = 4; i < 8; i++) {
            check.same("build " + i, canopy.build(10 + i, 7, 20), i);
        }
        check.same("platforms", canopy.count(1), 8);
        check.refuses(canopy, STATE, "the 9th platform", () -> canopy.build(30, 30, 30));
        check.refuses(canopy, ARGUMENT, "the 9th platform, badly placed", () -> canopy.build(30, 41, 30));
    }

    private static void promise2BuildRefuses() {
        ZipCanopy canopy = new ZipCanopy();
        canopy.build(5, 6, 7);
        check.refuses(canopy, ARGUMENT, "build x -1", () -> canopy.build(-1, 0, 0));
        check.refuses(canopy, ARGUMENT, "build x 41", () -> canopy.build(41, 0, 0));
        check.refuses(canopy, ARGUMENT, "build y -1", () -> canopy.build(0, -1, 0));
        check.refuses(canopy, ARGUMENT, "build y 41", () -> canopy.build(0, 41, 0));
        check.refuses(canopy, ARGUMENT, "build height -1", () -> canopy.build(0, 0, -1));
        check.refuses(canopy, ARGUMENT, "build height 61", () -> canopy.build(0, 0, 61));
        check.refuses(canopy, ARGUMENT, "build far away",
                () -> canopy.build(Integer.MIN_VALUE, Integer.MAX_VALUE, Integer.MIN_VALUE));
        check.refuses(canopy, ARGUMENT, "build at a taken place, too high", () -> canopy.build(5, 6, 61));
        check.refuses(canopy, STATE, "build at a taken place", () -> canopy.build(5, 6, 7));
        check.refuses(canopy, STATE, "build at a taken place, with another height", () -> canopy.build(5, 6, 8));
        check.same("build with the same x", canopy.build(5, 7, 7), 1);
        check.same("build with the same y", canopy.build(6, 6, 7), 2);
    }

    private static void promise3Span() {
        ZipCanopy canopy = new ZipCanopy();
        canopy.build(3, 30, 40);
        canopy.build(13, 5, 39);
        canopy.build(0, 0, 0);
        check.same("span of the least drop and weight", canopy.span(0, 1, 20, 1), 0);
        check.same("span of the greatest weight", canopy.span(0, 2, 150, 3), 1);
        check.same("span beside another", canopy.span(0, 1, 20, 2), 2);
        for (int i = 3; i < 12; i++) {
            check.same("span " + i, canopy.span(1, 2, 50 + i, 1), i);
        }
        check.same("lines", canopy.count(2), 12);
        check.same("trolleys", canopy.count(8), 1 + 3 + 2 + 9);
        check.refuses(canopy, STATE, "the 13th line", () -> canopy.span(0, 1, 20, 1));
        check.refuses(canopy, ARGUMENT, "the 13th line, uphill", () -> canopy.span(1, 0, 20, 1));
        check.refuses(canopy, INDEX, "the 13th line, from nowhere", () -> canopy.span(3, 0, 20, 1));
    }

    private static void promise3SpanRefuses() {
        ZipCanopy canopy = new ZipCanopy();
        canopy.build(0, 0, 10);
        canopy.build(1, 0, 5);
        canopy.build(2, 0, 10);
        check.refuses(canopy, INDEX, "span from -1", () -> canopy.span(-1, 1, 50, 1));
        check.refuses(canopy, INDEX, "span from 3", () -> canopy.span(3, 1, 50, 1));
        check.refuses(canopy, INDEX, "span to -1", () -> canopy.span(0, -1, 50, 1));
        check.refuses(canopy, INDEX, "span to 3", () -> canopy.span(0, 3, 50, 1));
        check.refuses(canopy, INDEX, "span to 3 with bad numbers", () -> canopy.span(0, 3, 0, 0));
        check.refuses(canopy, ARGUMENT, "span uphill", () -> canopy.span(1, 0, 50, 1));
        check.refuses(canopy, ARGUMENT, "span between equal heights", () -> canopy.span(0, 2, 50, 1));
        check.refuses(canopy, ARGUMENT, "span to itself", () -> canopy.span(0, 0, 50, 1));
        check.refuses(canopy, ARGUMENT, "span most 19", () -> canopy.span(0, 1, 19, 1));
        check.refuses(canopy, ARGUMENT, "span most 151", () -> canopy.span(0, 1, 151, 1));
        check.refuses(canopy, ARGUMENT, "span of 0 trolleys", () -> canopy.span(0, 1, 50, 0));
        check.refuses(canopy, ARGUMENT, "span of 4 trolleys", () -> canopy.span(0, 1, 50, 4));
        check.same("lines after what was refused", canopy.count(2), 0);
    }

    private static void promise4Add() {
        ZipCanopy canopy = new ZipCanopy();
        canopy.build(0, 0, 50);
        canopy.build(10, 0, 10);
        canopy.span(0, 1, 120, 1);
        canopy.span(0, 1, 120, 3);
        check.refuses(canopy, INDEX, "add(-1)", () -> canopy.add(-1));
        check.refuses(canopy, INDEX, "add(2)", () -> canopy.add(2));
        check.refuses(canopy, STATE, "add to 3", () -> canopy.add(1));
        check.same("add to 1", canopy.add(0), 2);
        canopy.come(0, 1, 80, 20);
        canopy.pass(1);
        check.same("add while one rides", canopy.add(0), 3);
        check.same("trolleys at the top", canopy.line(0, 6), 2);
        check.same("trolleys that ride", canopy.line(0, 7), 1);
        check.same("trolleys", canopy.line(0, 5), 3);
        check.refuses(canopy, STATE, "add to 3, one of them away", () -> canopy.add(0));
        check.same("trolleys in all", canopy.count(8), 6);
    }

    private static void promise5SetWind() {
        ZipCanopy canopy = new ZipCanopy();
        for (int minute = 0; minute < 12; minute++) {
            check.same("first wind of " + minute, canopy.setWind(minute, minute % 10), 0);
        }
        for (int minute = 0; minute < 12; minute++) {
            check.same("wind before of " + minute, canopy.setWind(minute, 9), minute % 10);
        }
        check.same("wind 9 before", canopy.setWind(11, 0), 9);
        check.same("wind 0 before", canopy.setWind(11, 0), 0);
        check.refuses(canopy, INDEX, "setWind(-1, 0)", () -> canopy.setWind(-1, 0));
        check.refuses(canopy, INDEX, "setWind(12, 0)", () -> canopy.setWind(12, 0));
        check.refuses(canopy, INDEX, "setWind(12, 10)", () -> canopy.setWind(12, 10));
        check.refuses(canopy, ARGUMENT, "setWind(0, -1)", () -> canopy.setWind(0, -1));
        check.refuses(canopy, ARGUMENT, "setWind(0, 10)", () -> canopy.setWind(0, 10));
    }

    private static void promise6Platform() {
        ZipCanopy canopy = new ZipCanopy();
        canopy.build(3, 4, 50);
        canopy.build(13, 5, 20);
        canopy.build(14, 15, 0);
        canopy.span(0, 1, 120, 1);
        canopy.span(0, 2, 120, 1);
        canopy.span(1, 2, 60, 1);
        canopy.span(0, 1, 60, 1);
        tellsPlatform(canopy, 0, 3, 4, 50, 0, -1, 3, 0, 0);
        tellsPlatform(canopy, 1, 13, 5, 20, 0, -1, 1, 2, 0);
        tellsPlatform(canopy, 2, 14, 15, 0, 0, -1, 0, 2, 0);
        canopy.come(2, 2, 50, 5);
        canopy.come(1, 0, 50, 5);
        canopy.come(0, 1, 50, 5);
        canopy.come(0, 1, 50, 5);
        tellsPlatform(canopy, 0, 3, 4, 50, 2, 2, 3, 0, 0);
        tellsPlatform(canopy, 1, 13, 5, 20, 1, 1, 1, 2, 0);
        tellsPlatform(canopy, 2, 14, 15, 0, 0, -1, 0, 2, 1);
        // rider 2 takes line 0 for (2 * 11 + 34) / 35 = 1 minute, and it is pulled up for 2
        canopy.pass(2);
        tellsPlatform(canopy, 0, 3, 4, 50, 1, 3, 3, 0, 0);
        tellsPlatform(canopy, 1, 13, 5, 20, 0, -1, 1, 2, 1);
        canopy.pass(3);
        tellsPlatform(canopy, 1, 13, 5, 20, 0, -1, 1, 2, 2);
        check.refuses(canopy, INDEX, "platform(-1, 0)", () -> canopy.platform(-1, 0));
        check.refuses(canopy, INDEX, "platform(3, 0)", () -> canopy.platform(3, 0));
        check.refuses(canopy, INDEX, "platform(0, -1)", () -> canopy.platform(0, -1));
        check.refuses(canopy, INDEX, "platform(0, 8)", () -> canopy.platform(0, 8));
    }

    private static void tellsPlatform(ZipCanopy canopy, int platform, int... due) {
        for (int what = 0; what < due.length; what++) {
            check.same("platform(" + platform + ", " + what + ")", canopy.platform(platform, what), due[what]);
        }
    }

    private static void promise7Line() {
        ZipCanopy canopy = new ZipCanopy();
        canopy.build(30, 10, 50);
        canopy.build(10, 25, 45);
        canopy.span(0, 1, 110, 2);
        tellsLine(canopy, 0, 1, 110, 35, 5, 2, 2, 0, 0, 0, 0);
        // 110 * 5 and 60 * 5 are less than 350 or not: 550 is not, 300 is
        canopy.come(0, 1, 110, 60);
        canopy.come(0, 1, 60, 60);
        canopy.pass(1);
        tellsLine(canopy, 0, 1, 110, 35, 5, 2, 1, 1, 1, 0, 0);
        canopy.pass(1);
        tellsLine(canopy, 0, 1, 110, 35, 5, 2, 0, 2, 2, 1, 0);
        // 110 rides (70 + 15) / 16 = 5 minutes, and the trolley is pulled up for 4
        canopy.pass(3);
        tellsLine(canopy, 0, 1, 110, 35, 5, 2, 0, 2, 2, 1, 0);
        canopy.pass(1);
        tellsLine(canopy, 0, 1, 110, 35, 5, 2, 0, 1, 2, 1, 0);
        canopy.pass(3);
        tellsLine(canopy, 0, 1, 110, 35, 5, 2, 0, 1, 2, 1, 0);
        canopy.pass(1);
        tellsLine(canopy, 0, 1, 110, 35, 5, 2, 1, 1, 2, 1, 0);
        // 60 began in minute 1 and rides 2 * ((70 + 10) / 11) = 14 minutes
        canopy.pass(5);
        tellsLine(canopy, 0, 1, 110, 35, 5, 2, 1, 1, 2, 1, 0);
        canopy.pass(1);
        tellsLine(canopy, 0, 1, 110, 35, 5, 2, 1, 0, 2, 1, 0);
        canopy.pass(4);
        tellsLine(canopy, 0, 1, 110, 35, 5, 2, 2, 0, 2, 1, 0);
        check.refuses(canopy, INDEX, "line(-1, 0)", () -> canopy.line(-1, 0));
        check.refuses(canopy, INDEX, "line(1, 0)", () -> canopy.line(1, 0));
        check.refuses(canopy, INDEX, "line(0, -1)", () -> canopy.line(0, -1));
        check.refuses(canopy, INDEX, "line(0, 11)", () -> canopy.line(0, 11));
    }

    private static void tellsLine(ZipCanopy canopy, int... due) {
        for (int what = 0; what < due.length; what++) {
            check.same("minute " + canopy.count(0) + " line(0, " + what + ")", canopy.line(0, what), due[what]);
        }
    }

    private static void promise7LineClosed() {
        ZipCanopy canopy = new ZipCanopy();
        canopy.build(0, 0, 60);
        canopy.build(40, 40, 0);
        canopy.build(4, 4, 50);
        canopy.build(4, 5, 40);
        canopy.span(0, 1, 100, 1);
        canopy.span(0, 2, 100, 1);
        canopy.span(0, 3, 100, 1);
        check.same("a line of 80 without wind", canopy.line(0, 10), 0);
        canopy.setWind(0, 1);
        check.same("a line of 80 in a wind of 1", canopy.line(0, 10), 1);
        canopy.setWind(0, 9);
        check.same("a line of 8 in a wind of 9", canopy.line(1, 10), 0);
        check.same("a line of 9 in a wind of 9", canopy.line(2, 10), 1);
        canopy.setWind(0, 8);
        check.same("a line of 9 in a wind of 8", canopy.line(2, 10), 0);
        canopy.setWind(0, 0);
        canopy.setWind(11, 1);
        for (int minute = 0; minute < 40; minute++) {
            check.same("closed in minute " + minute, canopy.line(0, 10), minute % 12 == 11 ? 1 : 0);
            canopy.pass(1);
        }
    }

    private static void promise8Ride() {
        ZipCanopy canopy = new ZipCanopy();
        canopy.build(0, 0, 60);
        canopy.build(10, 10, 55);
        canopy.build(40, 40, 54);
        canopy.build(0, 1, 0);
        canopy.span(0, 1, 110, 1);
        canopy.span(1, 2, 150, 1);
        canopy.span(0, 3, 20, 1);
        // length 20, drop 5: one gets stuck below a weight of 40
        check.same("ride of 40, just not stuck", canopy.ride(0, 40), (40 + 8) / 9);
        check.same("ride of 39, just stuck", canopy.ride(0, 39), -2 * ((40 + 7) / 8));
        check.same("ride of 30, without a rest", canopy.ride(0, 30), -2 * 5);
        check.same("ride of 49, as fast as 40", canopy.ride(0, 49), 5);
        check.same("ride of 50", canopy.ride(0, 50), 4);
        check.same("ride of 110, the greatest", canopy.ride(0, 110), 3);
        check.same("ride of 111, too heavy", canopy.ride(0, 111), 0);
        // length 60, drop 1: everybody gets stuck
        check.same("ride of 20, slow", canopy.ride(1, 20), -2 * 40);
        check.same("ride of 120", canopy.ride(1, 120), -2 * 10);
        check.same("ride of 20, fast", canopy.ride(2, 20), 1);
        check.same("ride of 21, too heavy for 20", canopy.ride(2, 21), 0);
        check.refuses(canopy, INDEX, "ride(-1, 50)", () -> canopy.ride(-1, 50));
        check.refuses(canopy, INDEX, "ride(3, 50)", () -> canopy.ride(3, 50));
        check.refuses(canopy, INDEX, "ride(3, 19)", () -> canopy.ride(3, 19));
        check.refuses(canopy, ARGUMENT, "ride(0, 19)", () -> canopy.ride(0, 19));
        check.refuses(canopy, ARGUMENT, "ride(0, 121)", () -> canopy.ride(0, 121));
    }
}
