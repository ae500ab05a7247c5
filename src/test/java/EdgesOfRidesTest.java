/** The edges that the blocks on lines, rides, weather and ways name: just stuck, closed, carried, as short. */
public final class EdgesOfRidesTest {
    private static final Check check = new Check("edges of rides");

    public static void main(String[] args) {
        lengthWithoutSigns();
        leastAndGreatestLength();
        rideOfEachLengthDropAndWeight();
        rideWithoutARest();
        tenthOfTheWeightIsCut();
        stuckJustBelow();
        stuckTakesTwiceTheCutMinutes();
        closedForEachWindAndLength();
        closedLinesAreNotTaken();
        wayOfFewestLines();
        wayOfEqualLinesHasTheSmallestNumber();
        wayWhoseRestIsAsShort();
        wayOnlyOverLinesThatCarry();
        wayInAStorm();
        wayIsOfOnesOwnWeight();
        check.end();
    }

    /** "the differences of x and of y of both platforms, without their signs, added": in every direction. */
    private static void lengthWithoutSigns() {
        int[][] around = {{20, 25}, {25, 20}, {20, 13}, {11, 20}, {27, 29}, {27, 10}, {9, 28}};
        int[] due = {5, 5, 7, 9, 16, 17, 19};
        ZipCanopy canopy = new ZipCanopy();
        canopy.build(20, 20, 30);
        for (int i = 0; i < around.length; i++) {
            canopy.build(around[i][0], around[i][1], i < 4 ? 20 : 40);
            int line = i < 4 ? canopy.span(0, i + 1, 120, 1) : canopy.span(i + 1, 0, 120, 1);
            check.same("length of line " + line, canopy.line(line, 3), due[i]);
            check.same("drop of line " + line, canopy.line(line, 4), 10);
        }
    }

    private static void leastAndGreatestLength() {
        ZipCanopy canopy = new ZipCanopy();
        canopy.build(0, 0, 60);
        canopy.build(40, 40, 30);
        canopy.build(40, 39, 0);
        canopy.build(39, 40, 0);
        canopy.build(0, 40, 1);
        canopy.build(40, 0, 0);
        canopy.span(0, 1, 120, 1);
        canopy.span(1, 2, 120, 1);
        canopy.span(1, 3, 120, 1);
        canopy.span(4, 5, 120, 1);
        check.same("from corner to corner", canopy.line(0, 3), 80);
        check.same("one apart in y", canopy.line(1, 3), 1);
        check.same("one apart in x", canopy.line(2, 3), 1);
        check.same("from the other corner to the last", canopy.line(3, 3), 80);
    }

    /** A ride takes the fewest minutes in which, at its speed, one comes twice the length far; or twice as many. */
    private static void rideOfEachLengthDropAndWeight() {
        for (int length = 1; length <= 80; length++) {
            for (int drop = 1; drop <= 60; drop++) {
                ZipCanopy canopy = new ZipCanopy();
                canopy.build(0, 0, drop);
                canopy.build(length > 40 ? 40 : length, length > 40 ? length - 40 : 0, 0);
                canopy.span(0, 1, 150, 1);
                for (int weight = 20; weight <= 120; weight++) {
                    check.same("ride over " + length + " and " + drop + " down with " + weight,
                            canopy.ride(0, weight), rideOf(length, drop, weight));
                }
            }
        }
    }

    private static int rideOf(int length, int drop, int weight) {
        int tens = 0;
        while (10 * (tens + 1) <= weight) {
            tens++;
        }
        int minutes = 0;
        while (minutes * (drop + tens) < length + length) {
            minutes++;
        }
        double steep = (double) weight * drop / length;
        return steep < 10.0 ? -(minutes + minutes) : minutes;
    }

    private static ZipCanopy lineOf(int length, int drop) {
        ZipCanopy canopy = new ZipCanopy();
        canopy.build(0, 0, drop);
        canopy.build(Math.min(length, 40), Math.max(length - 40, 0), 0);
        canopy.span(0, 1, 150, 1);
        return canopy;
    }

    /** "(2 * length + speed - 1) / speed": 2 * length as much as 3 speeds, 1 more, and 1 less than 3 are. */
    private static void rideWithoutARest() {
        check.same("60 at a speed of 20", lineOf(30, 10).ride(0, 100), 3);
        check.same("62 at a speed of 20", lineOf(31, 10).ride(0, 100), 4);
        check.same("58 at a speed of 20", lineOf(29, 10).ride(0, 100), 3);
        check.same("60 at a speed of 19", lineOf(30, 10).ride(0, 99), 4);
        check.same("2 at a speed of 72, the greatest", lineOf(1, 60).ride(0, 120), 1);
        check.same("160 at a speed of 3, the least", lineOf(80, 1).ride(0, 20), -108);
    }

    /** "weight / 10", cut: 29 is no faster than 20, and 30 is. */
    private static void tenthOfTheWeightIsCut() {
        ZipCanopy canopy = lineOf(24, 14);
        check.same("ride of 20, at a speed of 16", canopy.ride(0, 20), 3);
        check.same("ride of 29, at a speed of 16", canopy.ride(0, 29), 3);
        ZipCanopy longer = lineOf(25, 23);
        check.same("ride of 20, at a speed of 25", longer.ride(0, 20), 2);
        ZipCanopy more = lineOf(26, 23);
        check.same("ride of 29, at a speed of 25", more.ride(0, 29), 3);
        check.same("ride of 30, at a speed of 26", more.ride(0, 30), 2);
        check.same("ride of 119, at a speed of 11 + 9", lineOf(20, 9).ride(0, 119), 2);
        check.same("ride of 119, over one more", lineOf(21, 9).ride(0, 119), 3);
        check.same("ride of 120, over one more", lineOf(21, 9).ride(0, 120), 2);
    }

    /** "if weight * drop is less than 10 * length": not if it is as much. */
    private static void stuckJustBelow() {
        check.isTrue("50 * 6 is 10 * 30", lineOf(30, 6).ride(0, 50) > 0);
        check.isTrue("49 * 6 is less than 10 * 30", lineOf(30, 6).ride(0, 49) < 0);
        check.isTrue("50 * 5 is less than 10 * 30", lineOf(30, 5).ride(0, 50) < 0);
        check.isTrue("50 * 6 is less than 10 * 31", lineOf(31, 6).ride(0, 50) < 0);
        check.isTrue("20 * 1 is 10 * 2", lineOf(2, 1).ride(0, 20) > 0);
        check.isTrue("20 * 1 is less than 10 * 3", lineOf(3, 1).ride(0, 20) < 0);
        check.isTrue("120 * 1 is 10 * 12", lineOf(12, 1).ride(0, 120) > 0);
        check.isTrue("119 * 1 is less than 10 * 12", lineOf(12, 1).ride(0, 119) < 0);
        check.isTrue("100 * 8 is 10 * 80", lineOf(80, 8).ride(0, 100) > 0);
        check.isTrue("99 * 8 is less than 10 * 80", lineOf(80, 8).ride(0, 99) < 0);
    }

    /** "but twice as many": twice the minutes that are cut already; 60 at a speed of 10, and of 9. */
    private static void stuckTakesTwiceTheCutMinutes() {
        check.same("without a rest", lineOf(30, 6).ride(0, 49), -12);
        check.same("with a rest: 7 minutes, twice", lineOf(30, 6).ride(0, 39), -14);
    }

    /** "if its length is more than 80 less 8 times the wind". */
    private static void closedForEachWindAndLength() {
        int[] longestOpen = {80, 72, 64, 56, 48, 40, 32, 24, 16, 8};
        for (int length = 1; length <= 80; length++) {
            ZipCanopy canopy = lineOf(length, 60);
            for (int wind = 0; wind <= 9; wind++) {
                canopy.setWind(0, wind);
                check.same("a line of " + length + " in a wind of " + wind, canopy.line(0, 10),
                        length > longestOpen[wind] ? 1 : 0);
            }
        }
    }

    /** The longest line that a wind leaves open is taken, one that is longer by 1 is not. */
    private static void closedLinesAreNotTaken() {
        int[] longestOpen = {80, 72, 64, 56, 48, 40, 32, 24, 16, 8};
        for (int wind = 0; wind <= 9; wind++) {
            ZipCanopy open = lineOf(longestOpen[wind], 60);
            open.setWind(0, wind);
            open.come(0, 1, 120, 60);
            open.pass(1);
            check.same("taken in a wind of " + wind, open.line(0, 8), 1);
            if (wind > 0) {
                ZipCanopy closed = lineOf(longestOpen[wind] + 1, 60);
                closed.setWind(0, wind);
                closed.come(0, 1, 120, 60);
                closed.pass(1);
                check.same("not taken in a wind of " + wind, closed.line(0, 8), 0);
                check.same("one waits in a wind of " + wind, closed.rider(0, 3), 0);
                closed.pass(1);
                check.same("taken when it is calm again", closed.line(0, 8), 1);
            }
        }
    }

    /** Five platforms below one another, 10 apart. */
    private static ZipCanopy stairs() {
        ZipCanopy canopy = new ZipCanopy();
        for (int i = 0; i < 5; i++) {
            canopy.build(10 * i, 0, 60 - 15 * i);
        }
        return canopy;
    }

    private static void wayBegins(ZipCanopy canopy, String what, int rider, int lines, int first) {
        check.same(what + ", lines of the way", canopy.rider(rider, 7), lines);
        check.same(what + ", first line of it", canopy.rider(rider, 8), first);
    }

    /** "of all those with the fewest lines", though the others have the smaller numbers. */
    private static void wayOfFewestLines() {
        ZipCanopy canopy = stairs();
        canopy.span(0, 1, 120, 1);
        canopy.span(1, 2, 120, 1);
        canopy.span(2, 3, 120, 1);
        canopy.span(3, 4, 120, 1);
        canopy.come(0, 4, 50, 60);
        wayBegins(canopy, "step by step", 0, 4, 0);
        canopy.span(1, 4, 120, 1);
        wayBegins(canopy, "from 1 at once", 0, 2, 0);
        canopy.span(0, 3, 120, 1);
        wayBegins(canopy, "as short over 3, but with a greater number", 0, 2, 0);
        canopy.span(0, 4, 120, 1);
        wayBegins(canopy, "at once", 0, 1, 6);
        check.same("way(0, 4, 50)", canopy.way(0, 4, 50), 1);
        check.same("way(1, 4, 50)", canopy.way(1, 4, 50), 1);
        check.same("way(2, 4, 50)", canopy.way(2, 4, 50), 2);
        check.same("way(0, 3, 50)", canopy.way(0, 3, 50), 1);
        check.same("way(4, 4, 50)", canopy.way(4, 4, 50), 0);
    }

    /** "the line with the smallest number", on the way from each platform. */
    private static void wayOfEqualLinesHasTheSmallestNumber() {
        ZipCanopy canopy = stairs();
        canopy.span(2, 4, 120, 1);
        canopy.span(0, 2, 120, 1);
        canopy.span(0, 1, 120, 1);
        canopy.span(1, 4, 120, 1);
        canopy.span(1, 4, 120, 1);
        canopy.span(2, 4, 120, 1);
        canopy.come(0, 4, 50, 60);
        canopy.come(1, 4, 50, 60);
        canopy.come(2, 4, 50, 60);
        wayBegins(canopy, "from 0", 0, 2, 1);
        wayBegins(canopy, "from 1", 1, 1, 3);
        wayBegins(canopy, "from 2", 2, 1, 0);
        canopy.pass(1);
        check.same("rides over 1", canopy.rider(0, 5), 1);
        check.same("rides over 3", canopy.rider(1, 5), 3);
        check.same("rides over 0", canopy.rider(2, 5), 0);
        check.same("line 4 is nobody's", canopy.line(4, 8), 0);
        check.same("line 5 is nobody's", canopy.line(5, 8), 0);
    }

    /** "with which the rest of the way has as few lines as can be": line 0 has the smallest number alone. */
    private static void wayWhoseRestIsAsShort() {
        ZipCanopy canopy = stairs();
        canopy.span(0, 1, 120, 1);
        canopy.span(1, 2, 120, 1);
        canopy.span(0, 3, 120, 1);
        canopy.span(0, 2, 120, 1);
        canopy.span(2, 4, 120, 1);
        canopy.span(3, 4, 120, 1);
        canopy.come(0, 4, 50, 60);
        canopy.come(0, 2, 50, 60);
        canopy.come(0, 1, 50, 60);
        wayBegins(canopy, "to 4", 0, 2, 2);
        wayBegins(canopy, "to 2", 1, 1, 3);
        wayBegins(canopy, "to 1", 2, 1, 0);
    }

    /** "that carry the weight": each of them, and as much as their greatest weight. */
    private static void wayOnlyOverLinesThatCarry() {
        ZipCanopy canopy = stairs();
        canopy.span(0, 4, 49, 1);
        canopy.span(0, 1, 50, 1);
        canopy.span(1, 4, 49, 1);
        canopy.span(0, 2, 50, 1);
        canopy.span(2, 4, 50, 1);
        canopy.come(0, 4, 49, 60);
        canopy.come(0, 4, 50, 60);
        canopy.come(0, 4, 51, 60);
        wayBegins(canopy, "of 49", 0, 1, 0);
        wayBegins(canopy, "of 50", 1, 2, 3);
        wayBegins(canopy, "of 51", 2, 0, -1);
        check.same("way(0, 4, 49)", canopy.way(0, 4, 49), 1);
        check.same("way(0, 4, 50)", canopy.way(0, 4, 50), 2);
        check.same("way(0, 4, 51)", canopy.way(0, 4, 51), -1);
    }

    /** "The wind does not matter for this": one waits for a closed line, though an open one leads there, too. */
    private static void wayInAStorm() {
        ZipCanopy canopy = stairs();
        canopy.span(0, 4, 120, 1);
        canopy.span(0, 1, 120, 1);
        canopy.span(1, 4, 120, 1);
        canopy.come(0, 4, 50, 60);
        for (int minute = 0; minute < 12; minute++) {
            canopy.setWind(minute, 6);
        }
        check.same("the line of 40 is closed", canopy.line(0, 10), 1);
        check.same("the line of 10 is open", canopy.line(1, 10), 0);
        wayBegins(canopy, "in the storm", 0, 1, 0);
        check.same("way in the storm", canopy.way(0, 4, 50), 1);
        canopy.pass(30);
        check.same("waits", canopy.rider(0, 3), 0);
        check.same("has waited", canopy.rider(0, 6), 30);
        check.same("nobody took the open one", canopy.line(1, 8), 0);
    }

    /** Two at one place with one goal go different ways, and to different goals, too. */
    private static void wayIsOfOnesOwnWeight() {
        ZipCanopy canopy = stairs();
        canopy.span(0, 4, 60, 1);
        canopy.span(0, 1, 120, 1);
        canopy.span(1, 4, 120, 1);
        canopy.come(0, 4, 60, 60);
        canopy.come(0, 4, 61, 60);
        canopy.come(0, 1, 60, 60);
        canopy.pass(1);
        check.same("60 rides over 0", canopy.rider(0, 5), 0);
        check.same("61 rides over 1", canopy.rider(1, 5), 1);
        wayBegins(canopy, "60 to 1", 2, 1, 1);
        check.same("60 to 1 waits for line 1", canopy.rider(2, 3), 0);
    }
}
