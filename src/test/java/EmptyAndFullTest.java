/** Nothing there yet, and all places taken, wherever the document names how many there are at most. */
public final class EmptyAndFullTest {
    private static final Class<IndexOutOfBoundsException> INDEX = IndexOutOfBoundsException.class;
    private static final Class<IllegalArgumentException> ARGUMENT = IllegalArgumentException.class;
    private static final Class<IllegalStateException> STATE = IllegalStateException.class;

    private static final Check check = new Check("empty and full");

    public static void main(String[] args) {
        nothingYetTells();
        nothingYetHasNoNumbers();
        nothingYetLetsMinutesGoBy();
        onePlatformAlone();
        platformsWithoutLines();
        lineWithoutRiders();
        ridersOfWhomNobodyArrived();
        eightPlatforms();
        eightPlatformsUpwards();
        twelveLines();
        twelveLinesTakeTwelveRiders();
        threeTrolleysAtTheTop();
        threeTrolleysAway();
        thirtySixTrolleys();
        twelveInOneQueue();
        twelveRidersAndANewLine();
        twelveArrivedAtOnePlatform();
        twelveAreGone();
        placesOfRidersAreNotGivenBack();
        queueThatRunsEmpty();
        fullCanopyLikeThePlainOne();
        callUpToThe512th();
        check.end();
    }

    // ---- nothing there yet

    /** Promise 1: "Creates a canopy without platforms, at the minute 0", and what promises 13, 17 and 18 tell of it. */
    private static void nothingYetTells() {
        ZipCanopy canopy = new ZipCanopy();
        for (int what = 0; what <= 9; what++) {
            check.same("count(" + what + ")", canopy.count(what), 0);
        }
        check.sameDouble("mean()", canopy.mean(), 0.0);
        check.isTrue("mean() is not less than 0, not even as -0.0", 1 / canopy.mean() > 0);
        check.same("digest()", canopy.digest(), -1091735276543017071L);
        for (int minutes = 1; minutes <= 30; minutes++) {
            check.same("advise(" + minutes + ")", canopy.advise(minutes), -1);
        }
        for (int minute = 0; minute < 12; minute++) {
            check.same("setWind(" + minute + ", 0)", canopy.setWind(minute, 0), 0);
        }
    }

    private static void nothingYetHasNoNumbers() {
        for (int number = -1; number <= 1; number++) {
            int i = number;
            check.refusesWithoutTrace(Scenes::empty, INDEX, "span(" + i + ", 0, 50, 1)", c -> c.span(i, 0, 50, 1));
            check.refusesWithoutTrace(Scenes::empty, INDEX, "add(" + i + ")", c -> c.add(i));
            check.refusesWithoutTrace(Scenes::empty, INDEX, "platform(" + i + ", 0)", c -> c.platform(i, 0));
            check.refusesWithoutTrace(Scenes::empty, INDEX, "line(" + i + ", 0)", c -> c.line(i, 0));
            check.refusesWithoutTrace(Scenes::empty, INDEX, "ride(" + i + ", 50)", c -> c.ride(i, 50));
            check.refusesWithoutTrace(Scenes::empty, INDEX, "come(" + i + ", 0, 50, 5)", c -> c.come(i, 0, 50, 5));
            check.refusesWithoutTrace(Scenes::empty, INDEX, "rider(" + i + ", 0)", c -> c.rider(i, 0));
            check.refusesWithoutTrace(Scenes::empty, INDEX, "queue(" + i + ", 0)", c -> c.queue(i, 0));
            check.refusesWithoutTrace(Scenes::empty, INDEX, "way(" + i + ", 0, 50)", c -> c.way(i, 0, 50));
            check.refusesWithoutTrace(Scenes::empty, INDEX, "arrives(" + i + ")", c -> c.arrives(i));
        }
    }

    private static void nothingYetLetsMinutesGoBy() {
        ZipCanopy canopy = new ZipCanopy();
        check.same("pass(1)", canopy.pass(1), 0);
        check.same("pass(100)", canopy.pass(100), 0);
        check.same("the minute", canopy.count(0), 101);
        for (int what = 1; what <= 9; what++) {
            check.same("count(" + what + ")", canopy.count(what), 0);
        }
    }

    private static void onePlatformAlone() {
        ZipCanopy canopy = new ZipCanopy();
        check.same("build", canopy.build(0, 0, 0), 0);
        check.refuses(canopy, ARGUMENT, "span(0, 0, 50, 1)", () -> canopy.span(0, 0, 50, 1));
        check.refuses(canopy, INDEX, "span(0, 1, 50, 1)", () -> canopy.span(0, 1, 50, 1));
        check.refuses(canopy, INDEX, "span(1, 0, 50, 1)", () -> canopy.span(1, 0, 50, 1));
        check.refuses(canopy, INDEX, "come(0, 1, 50, 5)", () -> canopy.come(0, 1, 50, 5));
        check.same("way(0, 0, 50)", canopy.way(0, 0, 50), 0);
        check.same("come(0, 0, 50, 5)", canopy.come(0, 0, 50, 5), 0);
        check.same("arrives(0)", canopy.arrives(0), 0);
        check.same("pass(1) does not count who came to the goal at once", canopy.pass(1), 0);
    }

    private static void platformsWithoutLines() {
        ZipCanopy canopy = new ZipCanopy();
        canopy.build(1, 2, 60);
        canopy.build(3, 4, 30);
        int[][] due = {{1, 2, 60, 0, -1, 0, 0, 0}, {3, 4, 30, 0, -1, 0, 0, 0}};
        for (int i = 0; i < 2; i++) {
            int platform = i;
            for (int what = 0; what <= 7; what++) {
                check.same("platform(" + i + ", " + what + ")", canopy.platform(i, what), due[i][what]);
            }
            check.refuses(canopy, INDEX, "queue(" + i + ", 0)", () -> canopy.queue(platform, 0));
        }
        check.same("way down", canopy.way(0, 1, 50), -1);
        check.same("way up", canopy.way(1, 0, 50), -1);
        check.same("no way of a rider", canopy.rider(canopy.come(0, 1, 50, 60), 7), 0);
        check.same("no line of a rider", canopy.rider(0, 8), -1);
        check.same("arrives", canopy.arrives(0), -1);
        check.same("advise", canopy.advise(30), -1);
        canopy.pass(1);
        check.same("gone without a way", canopy.rider(0, 3), 3);
    }

    private static void lineWithoutRiders() {
        ZipCanopy canopy = new ZipCanopy();
        canopy.build(1, 2, 60);
        canopy.build(4, 7, 30);
        canopy.span(0, 1, 90, 2);
        for (int minute = 0; minute < 30; minute++) {
            int[] due = {0, 1, 90, 8, 30, 2, 2, 0, 0, 0, 0};
            for (int what = 0; what <= 10; what++) {
                check.same("minute " + minute + " line(0, " + what + ")", canopy.line(0, what), due[what]);
            }
            check.same("pass(1)", canopy.pass(1), 0);
        }
        check.same("advise without riders", canopy.advise(30), -1);
    }

    /** Promise 17: "0 if there are none". */
    private static void ridersOfWhomNobodyArrived() {
        ZipCanopy canopy = new ZipCanopy();
        canopy.build(0, 0, 60);
        canopy.build(40, 40, 0);
        canopy.span(0, 1, 120, 1);
        canopy.come(0, 1, 20, 60);
        canopy.come(0, 1, 20, 60);
        canopy.come(1, 0, 20, 60);
        canopy.pass(1);
        check.same("one rides", canopy.count(5), 1);
        check.same("one waits", canopy.count(4), 1);
        check.same("one is gone", canopy.count(7), 1);
        check.same("nobody arrived", canopy.count(6), 0);
        check.sameDouble("mean()", canopy.mean(), 0.0);
    }

    // ---- all places taken

    /** "There are at most 8, numbered from 0 in the order of their building." */
    private static void eightPlatforms() {
        ZipCanopy canopy = new ZipCanopy();
        for (int i = 0; i < 8; i++) {
            check.same("platforms before", canopy.count(1), i);
            check.same("build", canopy.build(40 - i, 3 * i, 7 * i), i);
        }
        for (int tried = 0; tried < 3; tried++) {
            check.refuses(canopy, STATE, "the 9th", () -> canopy.build(0, 40, 30));
        }
        check.same("platforms", canopy.count(1), 8);
        for (int i = 0; i < 8; i++) {
            check.same("x of " + i, canopy.platform(i, 0), 40 - i);
            check.same("y of " + i, canopy.platform(i, 1), 3 * i);
            check.same("height of " + i, canopy.platform(i, 2), 7 * i);
        }
        check.same("lines can still be spanned", canopy.span(7, 0, 20, 1), 0);
        check.same("riders can still come", canopy.come(7, 0, 20, 1), 0);
    }

    /** "There are at most 12, numbered likewise", as many as one likes between the same two. */
    private static void twelveLines() {
        ZipCanopy canopy = new ZipCanopy();
        canopy.build(0, 0, 60);
        canopy.build(9, 0, 30);
        canopy.build(19, 0, 10);
        for (int i = 0; i < 12; i++) {
            check.same("lines before", canopy.count(2), i);
            check.same("span", canopy.span(i % 2, 1 + i % 2, 20 + 10 * i, 1 + i % 3), i);
        }
        for (int tried = 0; tried < 3; tried++) {
            check.refuses(canopy, STATE, "the 13th", () -> canopy.span(0, 2, 50, 1));
        }
        check.same("lines", canopy.count(2), 12);
        for (int i = 0; i < 12; i++) {
            check.same("most of " + i, canopy.line(i, 2), 20 + 10 * i);
            check.same("length of " + i, canopy.line(i, 3), 9 + i % 2);
            check.same("drop of " + i, canopy.line(i, 4), 30 - 10 * (i % 2));
            check.same("trolleys of " + i, canopy.line(i, 5), 1 + i % 3);
        }
        check.same("lines from 0", canopy.platform(0, 5), 6);
        check.same("lines to 1", canopy.platform(1, 6), 6);
        check.same("lines from 1", canopy.platform(1, 5), 6);
        check.same("lines to 2", canopy.platform(2, 6), 6);
        check.same("trolleys can still be brought", canopy.add(0), 2);
    }

    /** Lines from the last platform to the first are as good as others: the way of who is there begins with them. */
    private static void eightPlatformsUpwards() {
        ZipCanopy canopy = new ZipCanopy();
        for (int i = 0; i < 8; i++) {
            canopy.build(5 * i, 0, 8 * i);
        }
        for (int i = 7; i > 0; i--) {
            canopy.span(i, i - 1, 120, 1);
        }
        for (int from = 0; from < 8; from++) {
            check.same("way from " + from, canopy.way(from, 0, 100), from);
            check.same("way up from " + from, canopy.way(from, 7, 100), from == 7 ? 0 : -1);
        }
        canopy.come(7, 0, 100, 1);
        check.same("lines of the way", canopy.rider(0, 7), 7);
        check.same("first line of it", canopy.rider(0, 8), 0);
        check.same("arrives", canopy.arrives(0), 7);
        check.same("pass(8)", canopy.pass(8), 1);
        check.same("lines taken", canopy.rider(0, 9), 7);
        check.same("has arrived there", canopy.platform(0, 7), 1);
    }

    /** Each of 12 lines takes its own rider in one and the same minute: of equal ways the first line that carries. */
    private static void twelveLinesTakeTwelveRiders() {
        ZipCanopy canopy = new ZipCanopy();
        canopy.build(0, 0, 60);
        canopy.build(10, 0, 0);
        for (int i = 0; i < 12; i++) {
            canopy.span(0, 1, 20 + 8 * i, 1);
        }
        for (int i = 11; i >= 0; i--) {
            canopy.come(0, 1, 20 + 8 * i, 60);
        }
        canopy.pass(1);
        check.same("riders who ride", canopy.count(5), 12);
        check.same("rides", canopy.count(9), 12);
        check.same("riders who wait", canopy.count(4), 0);
        for (int i = 0; i < 12; i++) {
            check.same("line of rider " + i, canopy.rider(i, 5), 11 - i);
            check.same("rides of line " + i, canopy.line(i, 8), 1);
        }
        check.same("the 12 arrive", canopy.pass(1), 12);
    }

    /** "has 1 to 3 trolleys": of three at the top one leaves in each minute, and the fourth waits. */
    private static void threeTrolleysAtTheTop() {
        ZipCanopy canopy = new ZipCanopy();
        canopy.build(0, 0, 17);
        canopy.build(30, 0, 0);
        canopy.span(0, 1, 120, 2);
        check.same("the third", canopy.add(0), 3);
        check.refuses(canopy, STATE, "the fourth", () -> canopy.add(0));
        for (int i = 0; i < 4; i++) {
            canopy.come(0, 1, 120, 60);
        }
        for (int left = 1; left <= 3; left++) {
            canopy.pass(1);
            check.same("at the top", canopy.line(0, 6), 3 - left);
            check.same("riding", canopy.line(0, 7), left);
            check.refuses(canopy, STATE, "a fourth, with " + left + " away", () -> canopy.add(0));
        }
        check.same("one waits", canopy.platform(0, 3), 1);
    }

    /** (60 + 28) / 29 = 3 minutes down and 3 up: away in 0, 1, 2, down in 3, 4, 5, up in 6, 7, 8. */
    private static void threeTrolleysAway() {
        ZipCanopy canopy = new ZipCanopy();
        canopy.build(0, 0, 17);
        canopy.build(30, 0, 0);
        canopy.span(0, 1, 120, 3);
        for (int i = 0; i < 12; i++) {
            canopy.come(0, 1, 120, 60);
        }
        int[] ridden = {1, 2, 3, 2, 1, 0, 1, 2, 3, 2, 1, 0, 1};
        int[] rides = {1, 2, 3, 3, 3, 3, 4, 5, 6, 6, 6, 6, 7};
        for (int minute = 0; minute < ridden.length; minute++) {
            canopy.pass(1);
            check.same("riding behind minute " + minute, canopy.line(0, 7), ridden[minute]);
            check.same("rides behind minute " + minute, canopy.line(0, 8), rides[minute]);
            check.same("trolleys behind minute " + minute, canopy.line(0, 5), 3);
        }
    }

    private static void thirtySixTrolleys() {
        ZipCanopy canopy = new ZipCanopy();
        canopy.build(0, 0, 60);
        canopy.build(40, 40, 0);
        for (int i = 0; i < 12; i++) {
            canopy.span(0, 1, 120, 3);
        }
        check.same("trolleys in all", canopy.count(8), 36);
        for (int i = 0; i < 12; i++) {
            int line = i;
            check.refuses(canopy, STATE, "add(" + i + ")", () -> canopy.add(line));
            canopy.come(0, 1, 120, 60);
        }
        for (int minutes = 1; minutes <= 30; minutes++) {
            check.same("no line has fewer than 3 for advise(" + minutes + ")", canopy.advise(minutes), -1);
        }
    }

    /** All riders in one queue: they leave it one by one, and each closes up. */
    private static void twelveInOneQueue() {
        ZipCanopy canopy = new ZipCanopy();
        canopy.build(0, 0, 60);
        canopy.build(10, 0, 0);
        canopy.span(0, 1, 120, 1);
        for (int i = 0; i < 12; i++) {
            check.same("come", canopy.come(0, 1, 50, 60), i);
            check.same("riders in the queue", canopy.platform(0, 3), i + 1);
        }
        check.refuses(canopy, STATE, "the 13th", () -> canopy.come(0, 1, 50, 60));
        // 1 minute down and 1 up: one leaves in each second minute
        for (int left = 1; left <= 12; left++) {
            int first = left;
            canopy.pass(left == 1 ? 1 : 2);
            check.same("riders in the queue", canopy.platform(0, 3), 12 - left);
            check.same("first of the queue", canopy.platform(0, 4), left == 12 ? -1 : left);
            for (int i = 0; i < 12 - left; i++) {
                check.same("queue(0, " + i + ")", canopy.queue(0, i), left + i);
            }
            check.refuses(canopy, INDEX, "queue(0, " + (12 - left) + ")", () -> canopy.queue(0, 12 - first));
        }
    }

    /** Lines can still be spanned when all riders are there, and change the way of each of them. */
    private static void twelveRidersAndANewLine() {
        ZipCanopy canopy = new ZipCanopy();
        canopy.build(0, 0, 60);
        canopy.build(10, 0, 0);
        for (int i = 0; i < 12; i++) {
            canopy.come(0, 1, 20 + 5 * i, 60);
        }
        for (int line = 0; line < 12; line++) {
            check.same("span", canopy.span(0, 1, 75 - 5 * line, 1), line);
            for (int i = 0; i < 12; i++) {
                boolean carried = 20 + 5 * i <= 75;
                check.same("lines of the way of " + i, canopy.rider(i, 7), carried ? 1 : 0);
                check.same("first line of " + i, canopy.rider(i, 8), carried ? 0 : -1);
            }
        }
        check.refuses(canopy, STATE, "the 13th line", () -> canopy.span(0, 1, 75, 1));
    }

    private static void twelveArrivedAtOnePlatform() {
        ZipCanopy canopy = new ZipCanopy();
        canopy.build(0, 0, 60);
        canopy.build(10, 0, 0);
        canopy.span(0, 1, 120, 1);
        for (int i = 0; i < 12; i++) {
            canopy.come(i % 2, 1, 50, 60);
        }
        check.same("arrived at once", canopy.platform(1, 7), 6);
        check.same("arrived later", canopy.pass(12), 6);
        check.same("riders who have arrived there", canopy.platform(1, 7), 12);
        check.same("riders who have arrived", canopy.count(6), 12);
        check.same("nobody waits there", canopy.platform(1, 3), 0);
        check.same("nobody has arrived above", canopy.platform(0, 7), 0);
        // 6 in minute 0, the others in 1, 3, 5, 7, 9, 11
        check.sameDouble("mean()", canopy.mean(), 3.0);
    }

    private static void twelveAreGone() {
        ZipCanopy canopy = new ZipCanopy();
        canopy.build(0, 0, 60);
        canopy.build(10, 0, 0);
        for (int i = 0; i < 12; i++) {
            canopy.come(i % 2, 1 - i % 2, 50, 60);
        }
        check.same("riders who wait", canopy.count(4), 12);
        check.same("pass(1)", canopy.pass(1), 0);
        check.same("riders who are gone", canopy.count(7), 12);
        check.same("riders who wait", canopy.count(4), 0);
        check.same("riders", canopy.count(3), 12);
        check.same("the queue of 0", canopy.platform(0, 3), 0);
        check.same("the queue of 1", canopy.platform(1, 3), 0);
        check.sameDouble("mean()", canopy.mean(), 0.0);
    }

    /** Promise 9: "if there are 12": they are numbered, and a number is not given twice. */
    private static void placesOfRidersAreNotGivenBack() {
        ZipCanopy canopy = new ZipCanopy();
        canopy.build(0, 0, 60);
        canopy.build(10, 0, 0);
        canopy.span(0, 1, 120, 1);
        for (int i = 0; i < 6; i++) {
            canopy.come(1, 0, 50, 60);
            canopy.come(0, 1, 50, 60);
        }
        canopy.pass(100);
        check.same("gone", canopy.count(7), 6);
        check.same("arrived", canopy.count(6), 6);
        check.refuses(canopy, STATE, "the 13th, when nobody is under way", () -> canopy.come(0, 1, 50, 60));
        check.refuses(canopy, STATE, "the 13th at the goal", () -> canopy.come(1, 1, 50, 60));
    }

    private static void queueThatRunsEmpty() {
        ZipCanopy canopy = new ZipCanopy();
        canopy.build(0, 0, 60);
        canopy.build(10, 0, 0);
        canopy.span(0, 1, 120, 1);
        for (int i = 0; i < 12; i++) {
            check.same("come to an empty queue", canopy.come(0, 1, 50, 60), i);
            check.same("first of the queue", canopy.platform(0, 4), i);
            canopy.pass(1);
            check.same("the queue is empty", canopy.platform(0, 3), 0);
            check.same("nobody is the first of it", canopy.platform(0, 4), -1);
            check.refuses(canopy, INDEX, "queue(0, 0)", () -> canopy.queue(0, 0));
            canopy.pass(1);
        }
        check.same("arrived", canopy.count(6), 12);
    }

    /** With all places taken the minutes go on as in PlainCanopy. */
    private static void fullCanopyLikeThePlainOne() {
        ZipCanopy canopy = new ZipCanopy();
        PlainCanopy plain = new PlainCanopy();
        for (int i = 0; i < 8; i++) {
            canopy.build(4 * i, 3 * i, 60 - 5 * i);
            plain.build(4 * i, 3 * i, 60 - 5 * i);
        }
        for (int i = 0; i < 12; i++) {
            canopy.span(i % 5, i % 5 + 1 + i % 3, 60 + 7 * i, 1 + i % 3);
            plain.span(i % 5, i % 5 + 1 + i % 3, 60 + 7 * i, 1 + i % 3);
            canopy.setWind(i, i % 6);
            plain.setWind(i, i % 6);
        }
        for (int i = 0; i < 12; i++) {
            canopy.come(i % 4, 7 - i % 3, 20 + 8 * i, 60 - 4 * i);
            plain.come(i % 4, 7 - i % 3, 20 + 8 * i, 60 - 4 * i);
        }
        for (int minute = 0; minute < 70; minute++) {
            check.same("digest in minute " + minute, canopy.digest(), plain.digest());
            check.same("arrives in minute " + minute, canopy.arrives(minute % 12), plain.arrives(minute % 12));
            check.same("advise in minute " + minute, canopy.advise(1 + minute % 30), plain.advise(1 + minute % 30));
            check.same("pass(1) in minute " + minute, canopy.pass(1), plain.pass(1));
        }
    }

    /** "An object is used for at most 512 calls": the last of them is answered like the first. */
    private static void callUpToThe512th() {
        ZipCanopy canopy = new ZipCanopy();
        canopy.build(0, 0, 60);
        canopy.build(40, 40, 0);
        canopy.span(0, 1, 120, 3);
        canopy.setWind(11, 9);
        for (int i = 0; i < 503; i++) {
            check.same("pass(100)", canopy.pass(100), 0);
        }
        // minute 50300 is number 8 of the table; length 80, drop 60, weight 120: (160 + 71) / 72 = 3 minutes
        check.same("come", canopy.come(0, 1, 120, 60), 0);
        check.same("arrives", canopy.arrives(0), 50303);
        check.same("pass(3)", canopy.pass(3), 0);
        check.same("closed in minute 50303", canopy.line(0, 10), 1);
        check.same("the 512th call", canopy.pass(1), 1);
    }
}
