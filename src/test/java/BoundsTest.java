/**
 * The smallest and the largest number that is allowed, for each parameter that has bounds: the call takes it, and what
 * is told of it later is this number. What lies outside the bounds is in RefusalsTest.
 */
public final class BoundsTest {
    private static final Check check = new Check("bounds");

    public static void main(String[] args) {
        promise2Place();
        promise2HeightAndOwnPlace();
        promise3TopAndBottom();
        promise3DropOfOne();
        promise3Most();
        promise3Trolleys();
        promise4Add();
        promise5SetWind();
        promise6Platform();
        promise7Line();
        promise8RideOfLeastAndGreatest();
        promise8RideJustCarried();
        promise9PlatformAndGoal();
        promise9Weight();
        promise9Patience();
        promise10Rider();
        promise11Queue();
        promise12Pass();
        promise13Count();
        promise14WayOfLeastAndGreatest();
        promise15Arrives();
        promise16AdviseOne();
        promise16AdviseThirty();
        check.end();
    }

    /** "each at a place x, y, 0 to 40 each". */
    private static void promise2Place() {
        int[] edges = {0, 1, 39, 40};
        for (int x : edges) {
            for (int y : edges) {
                ZipCanopy canopy = new ZipCanopy();
                check.same("build(" + x + ", " + y + ", 30)", canopy.build(x, y, 30), 0);
                check.same("x of " + x + ", " + y, canopy.platform(0, 0), x);
                check.same("y of " + x + ", " + y, canopy.platform(0, 1), y);
            }
        }
    }

    /** "of its own, and a height, 0 to 60": the height may be another's, and so may x or y, or both turned round. */
    private static void promise2HeightAndOwnPlace() {
        ZipCanopy canopy = new ZipCanopy();
        int[][] places = {{5, 9, 0}, {5, 10, 0}, {6, 9, 60}, {9, 5, 60}, {4, 9, 1}, {5, 8, 59}};
        for (int i = 0; i < places.length; i++) {
            int[] place = places[i];
            check.same("build " + i, canopy.build(place[0], place[1], place[2]), i);
            for (int what = 0; what < 3; what++) {
                check.same("platform(" + i + ", " + what + ")", canopy.platform(i, what), place[what]);
            }
        }
    }

    private static ZipCanopy eightDown() {
        ZipCanopy canopy = new ZipCanopy();
        for (int i = 0; i < 8; i++) {
            canopy.build(5 * i, 0, 60 - 2 * i);
        }
        return canopy;
    }

    private static void promise3TopAndBottom() {
        ZipCanopy canopy = eightDown();
        check.same("span from 0 to 7", canopy.span(0, 7, 120, 1), 0);
        check.same("span from 6 to 7", canopy.span(6, 7, 120, 1), 1);
        check.same("span from 0 to 1", canopy.span(0, 1, 120, 1), 2);
        check.same("top of 0", canopy.line(0, 0), 0);
        check.same("bottom of 0", canopy.line(0, 1), 7);
        check.same("top of 1", canopy.line(1, 0), 6);
        check.same("bottom of 1", canopy.line(1, 1), 7);
        check.same("top of 2", canopy.line(2, 0), 0);
        check.same("bottom of 2", canopy.line(2, 1), 1);

        ZipCanopy turned = new ZipCanopy();
        for (int i = 0; i < 8; i++) {
            turned.build(5 * i, 0, 2 * i);
        }
        check.same("span from 7 to 0", turned.span(7, 0, 120, 1), 0);
        check.same("top", turned.line(0, 0), 7);
        check.same("bottom", turned.line(0, 1), 0);
    }

    /** "from a platform, its top, to a lower one": lower by one is lower. */
    private static void promise3DropOfOne() {
        for (int height = 0; height < 60; height++) {
            ZipCanopy canopy = new ZipCanopy();
            canopy.build(0, 0, height);
            canopy.build(0, 1, height + 1);
            check.same("span down from " + (height + 1), canopy.span(1, 0, 120, 1), 0);
            check.same("drop", canopy.line(0, 4), 1);
        }
        ZipCanopy canopy = new ZipCanopy();
        canopy.build(0, 0, 60);
        canopy.build(0, 1, 0);
        check.same("span from 60 to 0", canopy.span(0, 1, 120, 1), 0);
        check.same("drop from 60 to 0", canopy.line(0, 4), 60);
    }

    /** "carries a greatest weight, 20 to 150": who weighs as much is carried, who weighs 1 more is not. */
    private static void promise3Most() {
        int[] edges = {20, 21, 119, 120, 121, 149, 150};
        ZipCanopy canopy = eightDown();
        for (int i = 0; i < edges.length; i++) {
            check.same("span(0, 1, " + edges[i] + ", 1)", canopy.span(0, 1, edges[i], 1), i);
            check.same("most of " + edges[i], canopy.line(i, 2), edges[i]);
            int heaviest = Math.min(edges[i], 120);
            check.isTrue("carries " + heaviest, canopy.ride(i, heaviest) != 0);
            if (heaviest < 120) {
                check.same("does not carry " + (heaviest + 1), canopy.ride(i, heaviest + 1), 0);
            }
        }
    }

    /** "has 1 to 3 trolleys, which are at its top, at first". */
    private static void promise3Trolleys() {
        ZipCanopy canopy = eightDown();
        for (int trolleys = 1; trolleys <= 3; trolleys++) {
            int line = canopy.span(0, 1, 120, trolleys);
            check.same("trolleys", canopy.line(line, 5), trolleys);
            check.same("trolleys at the top", canopy.line(line, 6), trolleys);
            check.same("trolleys that ride", canopy.line(line, 7), 0);
        }
        check.same("trolleys in all", canopy.count(8), 6);
    }

    private static void promise4Add() {
        ZipCanopy canopy = eightDown();
        for (int i = 0; i < 12; i++) {
            canopy.span(0, 1, 120, 1);
        }
        for (int line : new int[] {0, 11}) {
            check.same("add to 1 of line " + line, canopy.add(line), 2);
            check.same("add to 2 of line " + line, canopy.add(line), 3);
            check.same("trolleys of line " + line, canopy.line(line, 5), 3);
            check.same("trolleys at the top of line " + line, canopy.line(line, 6), 3);
        }
        check.same("trolleys of line 1", canopy.line(1, 5), 1);
        check.same("trolleys of line 10", canopy.line(10, 5), 1);
        check.same("trolleys in all", canopy.count(8), 16);
    }

    private static void promise5SetWind() {
        for (int minute : new int[] {0, 1, 10, 11}) {
            ZipCanopy canopy = new ZipCanopy();
            check.same("the first wind of " + minute, canopy.setWind(minute, 9), 0);
            check.same("9 before", canopy.setWind(minute, 0), 9);
            check.same("0 before", canopy.setWind(minute, 1), 0);
            check.same("1 before", canopy.setWind(minute, 8), 1);
            check.same("8 before", canopy.setWind(minute, 8), 8);
            for (int other = 0; other < 12; other++) {
                check.same("wind of " + other, canopy.setWind(other, 0), other == minute ? 8 : 0);
            }
        }
    }

    /** The least and the greatest number of a platform, and each what. */
    private static void promise6Platform() {
        ZipCanopy canopy = eightDown();
        canopy.span(0, 7, 120, 1);
        canopy.span(6, 7, 120, 1);
        canopy.come(0, 7, 50, 5);
        canopy.come(7, 7, 50, 5);
        canopy.come(0, 7, 50, 5);
        tellsPlatform(canopy, 0, 0, 0, 60, 2, 0, 1, 0, 0);
        tellsPlatform(canopy, 6, 30, 0, 48, 0, -1, 1, 0, 0);
        tellsPlatform(canopy, 7, 35, 0, 46, 0, -1, 0, 2, 1);
    }

    private static void tellsPlatform(ZipCanopy canopy, int platform, int... due) {
        for (int what = 0; what <= 7; what++) {
            check.same("platform(" + platform + ", " + what + ")", canopy.platform(platform, what), due[what]);
        }
    }

    /** The least and the greatest number of a line, and each what. */
    private static void promise7Line() {
        ZipCanopy canopy = eightDown();
        canopy.span(0, 1, 20, 3);
        for (int i = 1; i < 11; i++) {
            canopy.span(2, 3, 50, 1);
        }
        canopy.span(1, 7, 150, 2);
        canopy.come(0, 1, 20, 5);
        canopy.come(1, 7, 120, 5);
        canopy.pass(1);
        canopy.setWind(1, 7);
        // 20 * 2 is less than 10 * 5, and 120 * 12 is not less than 10 * 30; 30 is more than 80 less 56
        int[][] due = {{0, 1, 20, 5, 2, 3, 2, 1, 1, 1, 0}, {1, 7, 150, 30, 12, 2, 1, 1, 1, 0, 1}};
        for (int what = 0; what <= 10; what++) {
            check.same("line(0, " + what + ")", canopy.line(0, what), due[0][what]);
            check.same("line(11, " + what + ")", canopy.line(11, what), due[1][what]);
        }
    }

    private static void promise8RideOfLeastAndGreatest() {
        ZipCanopy canopy = eightDown();
        for (int i = 0; i < 11; i++) {
            canopy.span(0, 1, 150, 1);
        }
        canopy.span(1, 3, 150, 1);
        // 5 long and 2 down: 20 gets stuck, at (10 + 3) / 4 = 3 minutes; 120 takes (10 + 13) / 14
        check.same("ride(0, 20)", canopy.ride(0, 20), -6);
        check.same("ride(0, 120)", canopy.ride(0, 120), 1);
        // 10 long and 4 down: 20 gets stuck, at (20 + 5) / 6 = 4 minutes; 120 takes (20 + 15) / 16
        check.same("ride(11, 20)", canopy.ride(11, 20), -8);
        check.same("ride(11, 120)", canopy.ride(11, 120), 2);
    }

    /** "0 if the line does not carry it". */
    private static void promise8RideJustCarried() {
        for (int most = 20; most <= 150; most++) {
            ZipCanopy canopy = eightDown();
            canopy.span(0, 1, most, 1);
            for (int weight = 20; weight <= 120; weight++) {
                check.isTrue("ride of " + weight + " where at most " + most,
                        (canopy.ride(0, weight) == 0) == (weight > most));
            }
        }
    }

    private static void promise9PlatformAndGoal() {
        ZipCanopy canopy = eightDown();
        check.same("come at 0 for 7", canopy.come(0, 7, 50, 5), 0);
        check.same("come at 7 for 0", canopy.come(7, 0, 50, 5), 1);
        check.same("come at 0 for 0", canopy.come(0, 0, 50, 5), 2);
        check.same("come at 7 for 7", canopy.come(7, 7, 50, 5), 3);
        int[] platforms = {0, 7, 0, 7};
        int[] goals = {7, 0, 0, 7};
        for (int i = 0; i < 4; i++) {
            check.same("goal of " + i, canopy.rider(i, 2), goals[i]);
            check.same("state of " + i, canopy.rider(i, 3), i < 2 ? 0 : 2);
            check.same("platform of " + i, canopy.rider(i, 4), platforms[i]);
        }
    }

    private static void promise9Weight() {
        ZipCanopy canopy = eightDown();
        int[] edges = {20, 21, 119, 120};
        for (int i = 0; i < edges.length; i++) {
            check.same("come with " + edges[i], canopy.come(0, 7, edges[i], 5), i);
            check.same("weight of " + i, canopy.rider(i, 0), edges[i]);
        }
    }

    /** "a patience, 1 to 60": in a storm one waits that long, and not a minute longer. */
    private static void promise9Patience() {
        ZipCanopy canopy = new ZipCanopy();
        canopy.build(0, 0, 60);
        canopy.build(40, 0, 0);
        canopy.span(0, 1, 120, 1);
        for (int minute = 0; minute < 12; minute++) {
            canopy.setWind(minute, 9);
        }
        int[] edges = {1, 2, 59, 60};
        for (int i = 0; i < edges.length; i++) {
            check.same("come with a patience of " + edges[i], canopy.come(0, 1, 50, edges[i]), i);
            check.same("patience of " + i, canopy.rider(i, 1), edges[i]);
        }
        int passed = 0;
        for (int next : new int[] {1, 2, 3, 57, 58, 59, 60, 61}) {
            canopy.pass(next - passed);
            passed = next;
            for (int i = 0; i < edges.length; i++) {
                boolean gone = passed >= edges[i];
                check.same("state of " + i + " after " + passed, canopy.rider(i, 3), gone ? 3 : 0);
                check.same("minutes of " + i + " after " + passed, canopy.rider(i, 6), gone ? 0 : passed);
            }
        }
    }

    /** The least and the greatest number of a rider, and each what. */
    private static void promise10Rider() {
        ZipCanopy canopy = eightDown();
        canopy.span(0, 1, 120, 1);
        canopy.span(1, 7, 120, 1);
        canopy.come(0, 7, 20, 60);
        for (int i = 1; i < 11; i++) {
            canopy.come(7, 7, 50, 5);
        }
        canopy.come(0, 7, 120, 1);
        int[][] due = {{20, 60, 7, 0, 0, -1, 0, 2, 0, 0, -1}, {120, 1, 7, 0, 0, -1, 0, 2, 0, 0, -1}};
        for (int what = 0; what <= 10; what++) {
            check.same("rider(0, " + what + ")", canopy.rider(0, what), due[0][what]);
            check.same("rider(11, " + what + ")", canopy.rider(11, what), due[1][what]);
        }
    }

    private static void promise11Queue() {
        ZipCanopy canopy = eightDown();
        for (int i = 0; i < 12; i++) {
            canopy.come(i % 2 == 0 ? 7 : 0, i % 2 == 0 ? 0 : 7, 50, 5);
        }
        for (int i = 0; i < 6; i++) {
            check.same("queue(7, " + i + ")", canopy.queue(7, i), 2 * i);
            check.same("queue(0, " + i + ")", canopy.queue(0, i), 2 * i + 1);
        }
    }

    private static void promise12Pass() {
        ZipCanopy canopy = eightDown();
        check.same("pass(1)", canopy.pass(1), 0);
        check.same("the minute", canopy.count(0), 1);
        check.same("pass(2)", canopy.pass(2), 0);
        check.same("the minute", canopy.count(0), 3);
        check.same("pass(99)", canopy.pass(99), 0);
        check.same("the minute", canopy.count(0), 102);
        check.same("pass(100)", canopy.pass(100), 0);
        check.same("the minute", canopy.count(0), 202);
        canopy.span(0, 7, 120, 1);
        canopy.come(0, 7, 120, 60);
        // 35 long and 14 down: (70 + 25) / 26 = 3 minutes, and 4 for the trolley
        for (int i = 0; i < 8; i++) {
            canopy.come(0, 7, 120, 60);
        }
        check.same("pass(100) with nine who arrive", canopy.pass(100), 9);
        check.same("the last of them", canopy.rider(8, 10), 202 + 8 * 7 + 3);
    }

    private static void promise13Count() {
        ZipCanopy canopy = eightDown();
        canopy.span(0, 1, 120, 2);
        canopy.come(0, 1, 120, 5);
        canopy.come(1, 1, 120, 5);
        canopy.pass(1);
        int[] due = {1, 8, 1, 2, 0, 1, 1, 0, 2, 1};
        for (int what = 0; what <= 9; what++) {
            check.same("count(" + what + ")", canopy.count(what), due[what]);
        }
    }

    private static void promise14WayOfLeastAndGreatest() {
        ZipCanopy canopy = eightDown();
        canopy.span(0, 6, 120, 1);
        canopy.span(6, 7, 119, 1);
        canopy.span(0, 5, 20, 1);
        check.same("way(0, 6, 120)", canopy.way(0, 6, 120), 1);
        check.same("way(0, 7, 119)", canopy.way(0, 7, 119), 2);
        check.same("way(0, 7, 120)", canopy.way(0, 7, 120), -1);
        check.same("way(0, 7, 20)", canopy.way(0, 7, 20), 2);
        check.same("way(0, 5, 20)", canopy.way(0, 5, 20), 1);
        check.same("way(0, 5, 21)", canopy.way(0, 5, 21), -1);
        check.same("way(7, 0, 20)", canopy.way(7, 0, 20), -1);
        check.same("way(0, 0, 120)", canopy.way(0, 0, 120), 0);
        check.same("way(7, 7, 20)", canopy.way(7, 7, 20), 0);
    }

    private static void promise15Arrives() {
        ZipCanopy canopy = eightDown();
        canopy.span(0, 1, 120, 3);
        for (int i = 0; i < 12; i++) {
            canopy.come(0, 1, 120, 60);
        }
        // 5 long and 2 down: 1 minute, and 1 for the trolley; one leaves in every minute
        for (int i = 0; i < 12; i++) {
            check.same("arrives(" + i + ")", canopy.arrives(i), i + 1);
        }
    }

    /** Behind one minute nobody has come down who was not on the way already, so one more trolley never helps. */
    private static void promise16AdviseOne() {
        ZipCanopy canopy = eightDown();
        canopy.span(0, 1, 120, 1);
        for (int i = 0; i < 4; i++) {
            canopy.come(0, 1, 120, 60);
        }
        for (int minute = 0; minute < 10; minute++) {
            check.same("advise(1) in minute " + minute, canopy.advise(1), -1);
            canopy.pass(1);
        }
    }

    /** Stuck for 28 minutes on a line of 40: with one more, the second leaves in minute 1 and is down in minute 29. */
    private static void promise16AdviseThirty() {
        ZipCanopy canopy = new ZipCanopy();
        canopy.build(0, 0, 4);
        canopy.build(40, 0, 0);
        canopy.span(0, 1, 120, 1);
        canopy.come(0, 1, 20, 60);
        canopy.come(0, 1, 20, 60);
        check.same("the ride", canopy.ride(0, 20), -28);
        check.same("advise(28)", canopy.advise(28), -1);
        check.same("advise(29)", canopy.advise(29), -1);
        check.same("advise(30)", canopy.advise(30), 0);
        canopy.setWind(1, 9);
        check.same("advise(30) if it is minute 30", canopy.advise(30), -1);
    }
}
