/** Promises 9 to 11: come, rider, queue. */
public final class RidersTest {
    private static final Class<IndexOutOfBoundsException> INDEX = IndexOutOfBoundsException.class;
    private static final Class<IllegalArgumentException> ARGUMENT = IllegalArgumentException.class;
    private static final Class<IllegalStateException> STATE = IllegalStateException.class;

    private static final Check check = new Check("riders");

    public static void main(String[] args) {
        promise9Come();
        promise9ComeRefuses();
        promise10RiderOnTheWay();
        promise10RiderGone();
        promise10RiderAndNewLines();
        promise10RiderRefuses();
        promise11Queue();
        promise11QueueRefuses();
        check.end();
    }

    /** 0 -(line 0, 10 long, 20 down)- 1 -(line 1, 30 long, 9 down, up to 90)- 2, and 3 without lines. */
    private static ZipCanopy threeInARow() {
        ZipCanopy canopy = new ZipCanopy();
        canopy.build(0, 0, 40);
        canopy.build(10, 0, 20);
        canopy.build(20, 20, 11);
        canopy.build(40, 40, 0);
        canopy.span(0, 1, 120, 1);
        canopy.span(1, 2, 90, 1);
        return canopy;
    }

    private static void tellsRider(ZipCanopy canopy, int rider, int... due) {
        for (int what = 0; what < due.length; what++) {
            check.same("minute " + canopy.count(0) + " rider(" + rider + ", " + what + ")",
                    canopy.rider(rider, what), due[what]);
        }
    }

    private static void promise9Come() {
        ZipCanopy canopy = threeInARow();
        check.same("come", canopy.come(0, 2, 20, 1), 0);
        check.same("come with the greatest numbers", canopy.come(0, 1, 120, 60), 1);
        tellsRider(canopy, 0, 20, 1, 2, 0, 0, -1, 0, 2, 0, 0, -1);
        tellsRider(canopy, 1, 120, 60, 1, 0, 0, -1, 0, 1, 0, 0, -1);
        check.same("come to the goal", canopy.come(1, 1, 50, 5), 2);
        tellsRider(canopy, 2, 50, 5, 1, 2, 1, -1, 0, 0, -1, 0, 0);
        check.same("nobody waits at the goal", canopy.platform(1, 3), 0);
        canopy.pass(7);
        check.same("come to the goal later", canopy.come(3, 3, 50, 5), 3);
        tellsRider(canopy, 3, 50, 5, 3, 2, 3, -1, 0, 0, -1, 0, 7);
        check.same("come without a way", canopy.come(3, 0, 50, 5), 4);
        tellsRider(canopy, 4, 50, 5, 0, 0, 3, -1, 0, 0, -1, 0, -1);
        for (int i = 5; i < 12; i++) {
            check.same("come " + i, canopy.come(0, 1, 50, 5), i);
        }
        check.refuses(canopy, STATE, "the 13th rider", () -> canopy.come(0, 1, 50, 5));
        check.refuses(canopy, STATE, "the 13th rider, at the goal", () -> canopy.come(1, 1, 50, 5));
        check.refuses(canopy, ARGUMENT, "the 13th rider, too light", () -> canopy.come(0, 1, 19, 5));
    }

    private static void promise9ComeRefuses() {
        ZipCanopy canopy = threeInARow();
        check.refuses(canopy, INDEX, "come at -1", () -> canopy.come(-1, 1, 50, 5));
        check.refuses(canopy, INDEX, "come at 4", () -> canopy.come(4, 1, 50, 5));
        check.refuses(canopy, INDEX, "come for -1", () -> canopy.come(0, -1, 50, 5));
        check.refuses(canopy, INDEX, "come for 4", () -> canopy.come(0, 4, 50, 5));
        check.refuses(canopy, INDEX, "come for 4, too light", () -> canopy.come(0, 4, 19, 0));
        check.refuses(canopy, ARGUMENT, "come with 19", () -> canopy.come(0, 1, 19, 5));
        check.refuses(canopy, ARGUMENT, "come with 121", () -> canopy.come(0, 1, 121, 5));
        check.refuses(canopy, ARGUMENT, "come with patience 0", () -> canopy.come(0, 1, 50, 0));
        check.refuses(canopy, ARGUMENT, "come with patience 61", () -> canopy.come(0, 1, 50, 61));
        check.same("riders after what was refused", canopy.count(3), 0);
    }

    private static void promise10RiderOnTheWay() {
        ZipCanopy canopy = threeInARow();
        canopy.come(0, 2, 80, 9);
        canopy.come(0, 2, 30, 9);
        // line 0: 80 rides (20 + 27) / 28 = 1 minute, pulled up for 1; so rider 1 leaves in minute 2
        canopy.pass(1);
        tellsRider(canopy, 0, 80, 9, 2, 1, -1, 0, 1, 0, -1, 1, -1);
        tellsRider(canopy, 1, 30, 9, 2, 0, 0, -1, 1, 2, 0, 0, -1);
        canopy.setWind(1, 9);
        canopy.pass(1);
        // rider 0 is on platform 1, line 1 (30 long) is closed in this minute
        tellsRider(canopy, 0, 80, 9, 2, 0, 1, -1, 1, 1, 1, 1, -1);
        tellsRider(canopy, 1, 30, 9, 2, 0, 0, -1, 2, 2, 0, 0, -1);
        canopy.pass(1);
        // line 1: 80 rides (60 + 16) / 17 = 4 minutes, and does not get stuck, as 80 * 9 is not less than 300
        tellsRider(canopy, 0, 80, 9, 2, 1, -1, 1, 4, 0, -1, 2, -1);
        tellsRider(canopy, 1, 30, 9, 2, 1, -1, 0, 1, 0, -1, 1, -1);
        canopy.pass(3);
        tellsRider(canopy, 0, 80, 9, 2, 1, -1, 1, 1, 0, -1, 2, -1);
        tellsRider(canopy, 1, 30, 9, 2, 0, 1, -1, 3, 1, 1, 1, -1);
        canopy.pass(1);
        tellsRider(canopy, 0, 80, 9, 2, 2, 2, -1, 0, 0, -1, 2, 6);
        // the trolley is pulled up for 3 minutes after minute 6; 30 gets stuck: 2 * ((60 + 11) / 12) = 10
        canopy.pass(2);
        tellsRider(canopy, 1, 30, 9, 2, 0, 1, -1, 6, 1, 1, 1, -1);
        canopy.pass(1);
        tellsRider(canopy, 1, 30, 9, 2, 1, -1, 1, 10, 0, -1, 2, -1);
        canopy.pass(10);
        tellsRider(canopy, 1, 30, 9, 2, 2, 2, -1, 0, 0, -1, 2, 19);
    }

    private static void promise10RiderGone() {
        ZipCanopy canopy = threeInARow();
        canopy.come(0, 3, 50, 60);
        canopy.come(1, 2, 91, 60);
        canopy.come(1, 2, 90, 60);
        canopy.pass(1);
        tellsRider(canopy, 0, 50, 60, 3, 3, -1, -1, 0, 0, -1, 0, -1);
        tellsRider(canopy, 1, 91, 60, 2, 3, -1, -1, 0, 0, -1, 0, -1);
        tellsRider(canopy, 2, 90, 60, 2, 1, -1, 1, 4, 0, -1, 1, -1);
        canopy.come(1, 2, 90, 1);
        canopy.pass(1);
        tellsRider(canopy, 3, 90, 1, 2, 3, -1, -1, 0, 0, -1, 0, -1);
        canopy.pass(20);
        canopy.come(0, 2, 50, 2);
        canopy.setWind(11, 9);
        canopy.setWind(0, 9);
        canopy.setWind(1, 9);
        // minute 22: leaves by line 0; 23: at 1, closed; 24: closed again, gone
        canopy.pass(2);
        tellsRider(canopy, 4, 50, 2, 2, 0, 1, -1, 1, 1, 1, 1, -1);
        canopy.pass(1);
        tellsRider(canopy, 4, 50, 2, 2, 3, -1, -1, 0, 0, -1, 1, -1);
    }

    private static void promise10RiderAndNewLines() {
        ZipCanopy canopy = threeInARow();
        canopy.come(0, 3, 60, 60);
        canopy.come(0, 2, 60, 60);
        tellsRider(canopy, 0, 60, 60, 3, 0, 0, -1, 0, 0, -1, 0, -1);
        canopy.span(2, 3, 60, 1);
        tellsRider(canopy, 0, 60, 60, 3, 0, 0, -1, 0, 3, 0, 0, -1);
        canopy.span(0, 2, 59, 1);
        tellsRider(canopy, 1, 60, 60, 2, 0, 0, -1, 0, 2, 0, 0, -1);
        canopy.span(0, 2, 60, 1);
        tellsRider(canopy, 0, 60, 60, 3, 0, 0, -1, 0, 2, 4, 0, -1);
        tellsRider(canopy, 1, 60, 60, 2, 0, 0, -1, 0, 1, 4, 0, -1);
        canopy.span(0, 2, 60, 1);
        tellsRider(canopy, 1, 60, 60, 2, 0, 0, -1, 0, 1, 4, 0, -1);
        canopy.pass(1);
        tellsRider(canopy, 0, 60, 60, 3, 1, -1, 4, 3, 0, -1, 1, -1);
    }

    private static void promise10RiderRefuses() {
        ZipCanopy canopy = threeInARow();
        canopy.come(0, 2, 50, 5);
        check.refuses(canopy, INDEX, "rider(-1, 0)", () -> canopy.rider(-1, 0));
        check.refuses(canopy, INDEX, "rider(1, 0)", () -> canopy.rider(1, 0));
        check.refuses(canopy, INDEX, "rider(0, -1)", () -> canopy.rider(0, -1));
        check.refuses(canopy, INDEX, "rider(0, 11)", () -> canopy.rider(0, 11));
    }

    private static void promise11Queue() {
        ZipCanopy canopy = threeInARow();
        canopy.come(1, 2, 50, 60);
        canopy.come(0, 2, 60, 60);
        canopy.come(1, 2, 70, 2);
        canopy.come(0, 1, 80, 60);
        canopy.come(1, 2, 90, 60);
        queueIs(canopy, 0, 1, 3);
        queueIs(canopy, 1, 0, 2, 4);
        queueIs(canopy, 2);
        canopy.pass(1);
        queueIs(canopy, 0, 3);
        queueIs(canopy, 1, 2, 4);
        // rider 2 has no more patience; rider 1 comes down and stands behind rider 4
        canopy.pass(1);
        queueIs(canopy, 0, 3);
        queueIs(canopy, 1, 4, 1);
        canopy.come(1, 2, 40, 60);
        queueIs(canopy, 1, 4, 1, 5);
    }

    private static void queueIs(ZipCanopy canopy, int platform, int... due) {
        check.same("length of queue " + platform, canopy.platform(platform, 3), due.length);
        check.same("first of queue " + platform, canopy.platform(platform, 4), due.length == 0 ? -1 : due[0]);
        for (int i = 0; i < due.length; i++) {
            check.same("queue(" + platform + ", " + i + ")", canopy.queue(platform, i), due[i]);
        }
        check.refuses(canopy, INDEX, "behind the queue of " + platform, () -> canopy.queue(platform, due.length));
    }

    private static void promise11QueueRefuses() {
        ZipCanopy canopy = threeInARow();
        canopy.come(0, 2, 50, 5);
        check.refuses(canopy, INDEX, "queue(-1, 0)", () -> canopy.queue(-1, 0));
        check.refuses(canopy, INDEX, "queue(4, 0)", () -> canopy.queue(4, 0));
        check.refuses(canopy, INDEX, "queue(0, -1)", () -> canopy.queue(0, -1));
        check.refuses(canopy, INDEX, "queue(0, 1)", () -> canopy.queue(0, 1));
        check.refuses(canopy, INDEX, "queue(1, 0)", () -> canopy.queue(1, 0));
    }
}
