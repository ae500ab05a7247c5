/**
 * Each exception that a promise names, for each parameter just and far outside its bounds; their order; and "A method
 * that throws an exception changes nothing": seen on canopies with all places taken and with places left.
 */
public final class RefusalsTest {
    private static final Class<IndexOutOfBoundsException> INDEX = IndexOutOfBoundsException.class;
    private static final Class<IllegalArgumentException> ARGUMENT = IllegalArgumentException.class;
    private static final Class<IllegalStateException> STATE = IllegalStateException.class;

    private static final Check check = new Check("refusals");

    public static void main(String[] args) {
        promise2ArgumentIsNamedFirst();
        promise2PlaceTaken();
        promise2EightPlatforms();
        promise3NoSuchPlatformIsNamedFirst();
        promise3ArgumentComesNext();
        promise3TwelveLines();
        promise4NoSuchLine();
        promise4ThreeTrolleys();
        promise5MinuteIsNamedFirst();
        promise5Wind();
        promise6Platform();
        promise7Line();
        promise8LineIsNamedFirst();
        promise8Weight();
        promise9NoSuchPlatformOrGoalIsNamedFirst();
        promise9ArgumentComesNext();
        promise9TwelveRiders();
        promise10Rider();
        promise11Queue();
        promise12Pass();
        promise13Count();
        promise14PlatformIsNamedFirst();
        promise14Weight();
        promise15Arrives();
        promise16Advise();
        check.end();
    }

    /** Just outside the bounds, further outside, and as far as can be. */
    private static int[] outside(int least, int most) {
        return new int[] {least - 1, most + 1, least - 256, most + 256, Integer.MIN_VALUE, Integer.MIN_VALUE + least,
            Integer.MAX_VALUE - most, Integer.MAX_VALUE};
    }

    private static void onAll(Class<? extends RuntimeException> kind, String what, Check.Act act) {
        check.refusesWithoutTrace(Scenes::empty, kind, what + ", nothing there", act);
        onBoth(kind, what, act);
    }

    private static void onBoth(Class<? extends RuntimeException> kind, String what, Check.Act act) {
        onBusy(kind, what, act);
        onFull(kind, what, act);
    }

    private static void onBusy(Class<? extends RuntimeException> kind, String what, Check.Act act) {
        check.refusesWithoutTrace(Scenes::busy, kind, what + ", places left", act);
    }

    private static void onFull(Class<? extends RuntimeException> kind, String what, Check.Act act) {
        check.refusesWithoutTrace(Scenes::full, kind, what + ", all places taken", act);
    }

    /** "if x or y is not 0 to 40, or height is not 0 to 60", also where the place is taken or there are 8. */
    private static void promise2ArgumentIsNamedFirst() {
        for (int bad : outside(0, 40)) {
            onAll(ARGUMENT, "build(" + bad + ", 39, 30)", c -> c.build(bad, 39, 30));
            onAll(ARGUMENT, "build(39, " + bad + ", 30)", c -> c.build(39, bad, 30));
            onAll(ARGUMENT, "build(" + bad + ", " + bad + ", 30)", c -> c.build(bad, bad, 30));
        }
        for (int bad : outside(0, 60)) {
            onAll(ARGUMENT, "build(39, 39, " + bad + ")", c -> c.build(39, 39, bad));
            onBusy(ARGUMENT, "build(10, 0, " + bad + ") at a taken place", c -> c.build(10, 0, bad));
            onFull(ARGUMENT, "build(20, 20, " + bad + ") at a taken place", c -> c.build(20, 20, bad));
        }
    }

    /** "if there is one at this place": at that of the first, of the last, and with any height. */
    private static void promise2PlaceTaken() {
        for (int height : new int[] {0, 15, 40, 60}) {
            onBusy(STATE, "build(0, 0, " + height + ")", c -> c.build(0, 0, height));
            onBusy(STATE, "build(10, 0, " + height + ")", c -> c.build(10, 0, height));
            onBusy(STATE, "build(0, 10, " + height + ")", c -> c.build(0, 10, height));
            onBusy(STATE, "build(40, 30, " + height + ")", c -> c.build(40, 30, height));
        }
    }

    /** "or there are 8": at a free place as well as at a taken one. */
    private static void promise2EightPlatforms() {
        onFull(STATE, "build(39, 39, 30)", c -> c.build(39, 39, 30));
        onFull(STATE, "build(0, 0, 0)", c -> c.build(0, 0, 0));
        onFull(STATE, "build(40, 40, 60)", c -> c.build(40, 40, 60));
        onFull(STATE, "build(20, 20, 60)", c -> c.build(20, 20, 60));
        onFull(STATE, "build(40, 0, 0)", c -> c.build(40, 0, 0));
    }

    /** "if there is no such platform", whatever else is wrong. */
    private static void promise3NoSuchPlatformIsNamedFirst() {
        check.refusesWithoutTrace(Scenes::empty, INDEX, "span(0, 0, 50, 1) without platforms",
                c -> c.span(0, 0, 50, 1));
        check.refusesWithoutTrace(Scenes::empty, INDEX, "span(0, 1, 19, 4) without platforms",
                c -> c.span(0, 1, 19, 4));
        for (int bad : outside(0, Scenes.BUSY_PLATFORMS - 1)) {
            onBusy(INDEX, "span(" + bad + ", 4, 50, 1)", c -> c.span(bad, 4, 50, 1));
            onBusy(INDEX, "span(0, " + bad + ", 50, 1)", c -> c.span(0, bad, 50, 1));
        }
        for (int bad : outside(0, 7)) {
            onBoth(INDEX, "span(" + bad + ", 4, 50, 1)", c -> c.span(bad, 4, 50, 1));
            onBoth(INDEX, "span(0, " + bad + ", 50, 1)", c -> c.span(0, bad, 50, 1));
            onBoth(INDEX, "span(" + bad + ", " + bad + ", 50, 1)", c -> c.span(bad, bad, 50, 1));
            onBoth(INDEX, "span(" + bad + ", 4, 19, 1)", c -> c.span(bad, 4, 19, 1));
            onBoth(INDEX, "span(" + bad + ", 4, 50, 0)", c -> c.span(bad, 4, 50, 0));
            onBoth(INDEX, "span(0, " + bad + ", 151, 1)", c -> c.span(0, bad, 151, 1));
            onBoth(INDEX, "span(0, " + bad + ", 50, 4)", c -> c.span(0, bad, 50, 4));
        }
    }

    /** "if the bottom is not lower than the top, most is not 20 to 150, or trolleys is not 1 to 3": even behind 12. */
    private static void promise3ArgumentComesNext() {
        onBoth(ARGUMENT, "span(4, 0, 50, 1) uphill", c -> c.span(4, 0, 50, 1));
        onBoth(ARGUMENT, "span(1, 0, 50, 1) uphill", c -> c.span(1, 0, 50, 1));
        onBoth(ARGUMENT, "span(1, 2, 50, 1) between equal heights", c -> c.span(1, 2, 50, 1));
        onBoth(ARGUMENT, "span(2, 1, 50, 1) between equal heights", c -> c.span(2, 1, 50, 1));
        onBoth(ARGUMENT, "span(0, 0, 50, 1) to itself", c -> c.span(0, 0, 50, 1));
        onBoth(ARGUMENT, "span(4, 4, 50, 1) to itself", c -> c.span(4, 4, 50, 1));
        for (int bad : outside(20, 150)) {
            onBoth(ARGUMENT, "span(0, 4, " + bad + ", 1)", c -> c.span(0, 4, bad, 1));
            onBoth(ARGUMENT, "span(0, 4, " + bad + ", 3)", c -> c.span(0, 4, bad, 3));
        }
        for (int bad : outside(1, 3)) {
            onBoth(ARGUMENT, "span(0, 4, 50, " + bad + ")", c -> c.span(0, 4, 50, bad));
            onBoth(ARGUMENT, "span(0, 4, 150, " + bad + ")", c -> c.span(0, 4, 150, bad));
        }
    }

    /** "if there are 12". */
    private static void promise3TwelveLines() {
        onFull(STATE, "span(0, 4, 20, 1)", c -> c.span(0, 4, 20, 1));
        onFull(STATE, "span(0, 7, 150, 3)", c -> c.span(0, 7, 150, 3));
        onFull(STATE, "span(0, 1, 120, 1) beside another", c -> c.span(0, 1, 120, 1));
    }

    private static void promise4NoSuchLine() {
        check.refusesWithoutTrace(Scenes::empty, INDEX, "add(0) without lines", c -> c.add(0));
        for (int bad : outside(0, Scenes.BUSY_LINES - 1)) {
            onBusy(INDEX, "add(" + bad + ")", c -> c.add(bad));
        }
        for (int bad : outside(0, 11)) {
            onBoth(INDEX, "add(" + bad + ")", c -> c.add(bad));
        }
    }

    /** "if it has 3": at the top, or on the way down and up. */
    private static void promise4ThreeTrolleys() {
        onBusy(STATE, "add(1) to 3 at the top", c -> c.add(1));
        onFull(STATE, "add(11) to 3 at the top", c -> c.add(11));
        check.refusesWithoutTrace(RefusalsTest::threeAway, STATE, "add(0) to 3 that are away", c -> c.add(0));
    }

    /** A ride takes (60 + 28) / 29 = 3 minutes: in minute 3 the first trolley is down, and two others still ride. */
    private static ZipCanopy threeAway() {
        ZipCanopy canopy = new ZipCanopy();
        canopy.build(0, 0, 17);
        canopy.build(30, 0, 0);
        canopy.span(0, 1, 120, 3);
        for (int i = 0; i < 5; i++) {
            canopy.come(0, 1, 120, 60);
        }
        canopy.pass(4);
        check.same("of 3 trolleys two ride", canopy.line(0, 7), 2);
        check.same("of 3 trolleys none is at the top", canopy.line(0, 6), 0);
        return canopy;
    }

    private static void promise5MinuteIsNamedFirst() {
        for (int bad : outside(0, 11)) {
            onAll(INDEX, "setWind(" + bad + ", 5)", c -> c.setWind(bad, 5));
            onAll(INDEX, "setWind(" + bad + ", -1)", c -> c.setWind(bad, -1));
            onAll(INDEX, "setWind(" + bad + ", 10)", c -> c.setWind(bad, 10));
        }
    }

    private static void promise5Wind() {
        for (int bad : outside(0, 9)) {
            onAll(ARGUMENT, "setWind(0, " + bad + ")", c -> c.setWind(0, bad));
            onAll(ARGUMENT, "setWind(11, " + bad + ")", c -> c.setWind(11, bad));
        }
    }

    private static void promise6Platform() {
        check.refusesWithoutTrace(Scenes::empty, INDEX, "platform(0, 0) without platforms", c -> c.platform(0, 0));
        for (int bad : outside(0, Scenes.BUSY_PLATFORMS - 1)) {
            onBusy(INDEX, "platform(" + bad + ", 0)", c -> c.platform(bad, 0));
        }
        for (int bad : outside(0, 7)) {
            onBoth(INDEX, "platform(" + bad + ", 7)", c -> c.platform(bad, 7));
            onBoth(INDEX, "platform(0, " + bad + ")", c -> c.platform(0, bad));
            onBoth(INDEX, "platform(4, " + bad + ")", c -> c.platform(4, bad));
            onBoth(INDEX, "platform(" + bad + ", " + bad + ")", c -> c.platform(bad, bad));
        }
    }

    private static void promise7Line() {
        check.refusesWithoutTrace(Scenes::empty, INDEX, "line(0, 0) without lines", c -> c.line(0, 0));
        for (int bad : outside(0, Scenes.BUSY_LINES - 1)) {
            onBusy(INDEX, "line(" + bad + ", 0)", c -> c.line(bad, 0));
        }
        for (int bad : outside(0, 11)) {
            onBoth(INDEX, "line(" + bad + ", 10)", c -> c.line(bad, 10));
        }
        for (int bad : outside(0, 10)) {
            onBoth(INDEX, "line(0, " + bad + ")", c -> c.line(0, bad));
            onBoth(INDEX, "line(4, " + bad + ")", c -> c.line(4, bad));
        }
    }

    private static void promise8LineIsNamedFirst() {
        check.refusesWithoutTrace(Scenes::empty, INDEX, "ride(0, 50) without lines", c -> c.ride(0, 50));
        for (int bad : outside(0, Scenes.BUSY_LINES - 1)) {
            onBusy(INDEX, "ride(" + bad + ", 50)", c -> c.ride(bad, 50));
        }
        for (int bad : outside(0, 11)) {
            onBoth(INDEX, "ride(" + bad + ", 50)", c -> c.ride(bad, 50));
            onBoth(INDEX, "ride(" + bad + ", 19)", c -> c.ride(bad, 19));
            onBoth(INDEX, "ride(" + bad + ", 121)", c -> c.ride(bad, 121));
        }
    }

    /** Also where the line carries more than 120, and where it does not carry so much. */
    private static void promise8Weight() {
        for (int bad : outside(20, 120)) {
            onBoth(ARGUMENT, "ride(0, " + bad + ")", c -> c.ride(0, bad));
            onBusy(ARGUMENT, "ride(1, " + bad + ") on a line for 150", c -> c.ride(1, bad));
            onFull(ARGUMENT, "ride(11, " + bad + ") on a line for 40", c -> c.ride(11, bad));
        }
    }

    private static void promise9NoSuchPlatformOrGoalIsNamedFirst() {
        check.refusesWithoutTrace(Scenes::empty, INDEX, "come(0, 0, 50, 5) without platforms",
                c -> c.come(0, 0, 50, 5));
        for (int bad : outside(0, Scenes.BUSY_PLATFORMS - 1)) {
            onBusy(INDEX, "come(" + bad + ", 4, 50, 5)", c -> c.come(bad, 4, 50, 5));
            onBusy(INDEX, "come(0, " + bad + ", 50, 5)", c -> c.come(0, bad, 50, 5));
        }
        for (int bad : outside(0, 7)) {
            onBoth(INDEX, "come(" + bad + ", 4, 50, 5)", c -> c.come(bad, 4, 50, 5));
            onBoth(INDEX, "come(0, " + bad + ", 50, 5)", c -> c.come(0, bad, 50, 5));
            onBoth(INDEX, "come(" + bad + ", " + bad + ", 50, 5)", c -> c.come(bad, bad, 50, 5));
            onBoth(INDEX, "come(" + bad + ", 4, 19, 5)", c -> c.come(bad, 4, 19, 5));
            onBoth(INDEX, "come(" + bad + ", 4, 50, 0)", c -> c.come(bad, 4, 50, 0));
            onBoth(INDEX, "come(0, " + bad + ", 121, 5)", c -> c.come(0, bad, 121, 5));
            onBoth(INDEX, "come(0, " + bad + ", 50, 61)", c -> c.come(0, bad, 50, 61));
        }
    }

    /** "if weight is not 20 to 120, or patience is not 1 to 60": even behind 12, and at the goal. */
    private static void promise9ArgumentComesNext() {
        for (int bad : outside(20, 120)) {
            onBoth(ARGUMENT, "come(0, 4, " + bad + ", 5)", c -> c.come(0, 4, bad, 5));
            onBoth(ARGUMENT, "come(4, 4, " + bad + ", 5)", c -> c.come(4, 4, bad, 5));
        }
        for (int bad : outside(1, 60)) {
            onBoth(ARGUMENT, "come(0, 4, 50, " + bad + ")", c -> c.come(0, 4, 50, bad));
            onBoth(ARGUMENT, "come(4, 4, 50, " + bad + ")", c -> c.come(4, 4, 50, bad));
        }
        onBoth(ARGUMENT, "come(0, 4, 19, 61)", c -> c.come(0, 4, 19, 61));
    }

    /** "if there are 12": those who wait, ride, have arrived and are gone, together. */
    private static void promise9TwelveRiders() {
        onFull(STATE, "come(0, 4, 20, 1)", c -> c.come(0, 4, 20, 1));
        onFull(STATE, "come(0, 7, 120, 60)", c -> c.come(0, 7, 120, 60));
        onFull(STATE, "come(7, 7, 50, 5) at the goal", c -> c.come(7, 7, 50, 5));
        onFull(STATE, "come(7, 0, 50, 5) without a way", c -> c.come(7, 0, 50, 5));
    }

    private static void promise10Rider() {
        check.refusesWithoutTrace(Scenes::empty, INDEX, "rider(0, 0) without riders", c -> c.rider(0, 0));
        for (int bad : outside(0, Scenes.BUSY_RIDERS - 1)) {
            onBusy(INDEX, "rider(" + bad + ", 0)", c -> c.rider(bad, 0));
        }
        for (int bad : outside(0, 11)) {
            onBoth(INDEX, "rider(" + bad + ", 10)", c -> c.rider(bad, 10));
        }
        for (int bad : outside(0, 10)) {
            onBoth(INDEX, "rider(0, " + bad + ")", c -> c.rider(0, bad));
            onBoth(INDEX, "rider(6, " + bad + ")", c -> c.rider(6, bad));
        }
    }

    /** "if there is no such platform or place": behind the last of the queue, and in an empty one. */
    private static void promise11Queue() {
        check.refusesWithoutTrace(Scenes::empty, INDEX, "queue(0, 0) without platforms", c -> c.queue(0, 0));
        for (int bad : outside(0, Scenes.BUSY_PLATFORMS - 1)) {
            onBusy(INDEX, "queue(" + bad + ", 0)", c -> c.queue(bad, 0));
        }
        for (int bad : outside(0, 7)) {
            onBoth(INDEX, "queue(" + bad + ", 0)", c -> c.queue(bad, 0));
        }
        check.same("riders in the queue of 1, places left", Scenes.busy().platform(1, 3), 1);
        check.same("riders in the queue of 1, all places taken", Scenes.full().platform(1, 3), 2);
        for (int bad : outside(0, 0)) {
            onBusy(INDEX, "queue(1, " + bad + ")", c -> c.queue(1, bad));
        }
        for (int bad : outside(0, 1)) {
            onFull(INDEX, "queue(1, " + bad + ")", c -> c.queue(1, bad));
        }
        for (int bad : new int[] {-1, 0, 1, Integer.MIN_VALUE, Integer.MAX_VALUE}) {
            onBusy(INDEX, "queue(2, " + bad + ") where nobody waits", c -> c.queue(2, bad));
            onFull(INDEX, "queue(7, " + bad + ") where nobody waits", c -> c.queue(7, bad));
        }
    }

    private static void promise12Pass() {
        for (int bad : outside(1, 100)) {
            onAll(ARGUMENT, "pass(" + bad + ")", c -> c.pass(bad));
        }
    }

    private static void promise13Count() {
        for (int bad : outside(0, 9)) {
            onAll(INDEX, "count(" + bad + ")", c -> c.count(bad));
        }
    }

    private static void promise14PlatformIsNamedFirst() {
        check.refusesWithoutTrace(Scenes::empty, INDEX, "way(0, 0, 50) without platforms", c -> c.way(0, 0, 50));
        for (int bad : outside(0, Scenes.BUSY_PLATFORMS - 1)) {
            onBusy(INDEX, "way(" + bad + ", 4, 50)", c -> c.way(bad, 4, 50));
            onBusy(INDEX, "way(0, " + bad + ", 50)", c -> c.way(0, bad, 50));
        }
        for (int bad : outside(0, 7)) {
            onBoth(INDEX, "way(" + bad + ", 4, 50)", c -> c.way(bad, 4, 50));
            onBoth(INDEX, "way(0, " + bad + ", 50)", c -> c.way(0, bad, 50));
            onBoth(INDEX, "way(" + bad + ", " + bad + ", 50) to the same", c -> c.way(bad, bad, 50));
            onBoth(INDEX, "way(" + bad + ", 4, 19)", c -> c.way(bad, 4, 19));
            onBoth(INDEX, "way(0, " + bad + ", 121)", c -> c.way(0, bad, 121));
        }
    }

    /** Also to the same platform, and uphill. */
    private static void promise14Weight() {
        for (int bad : outside(20, 120)) {
            onBoth(ARGUMENT, "way(0, 4, " + bad + ")", c -> c.way(0, 4, bad));
            onBoth(ARGUMENT, "way(4, 4, " + bad + ")", c -> c.way(4, 4, bad));
            onBoth(ARGUMENT, "way(4, 0, " + bad + ")", c -> c.way(4, 0, bad));
        }
    }

    private static void promise15Arrives() {
        check.refusesWithoutTrace(Scenes::empty, INDEX, "arrives(0) without riders", c -> c.arrives(0));
        for (int bad : outside(0, Scenes.BUSY_RIDERS - 1)) {
            onBusy(INDEX, "arrives(" + bad + ")", c -> c.arrives(bad));
        }
        for (int bad : outside(0, 11)) {
            onBoth(INDEX, "arrives(" + bad + ")", c -> c.arrives(bad));
        }
    }

    private static void promise16Advise() {
        for (int bad : outside(1, 30)) {
            onAll(ARGUMENT, "advise(" + bad + ")", c -> c.advise(bad));
        }
    }
}
