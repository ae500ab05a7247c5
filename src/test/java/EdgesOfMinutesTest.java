/** The edges of what a minute does, step by step as the document tells it, and of what pass() counts of it. */
public final class EdgesOfMinutesTest {
    private static final int WAITS = 0;
    private static final int RIDES = 1;
    private static final int ARRIVED = 2;
    private static final int GONE = 3;

    private static final Check check = new Check("edges of minutes");

    public static void main(String[] args) {
        step1LineByLineAndAsTheyLeft();
        step1RideIsOverWithNoMinuteLeft();
        step1EndOfTheQueue();
        step1WaitsFromNowOn();
        step1PulledUpAsLongAsTheLineIs();
        step1NotOneThatHasJustComeDown();
        step1IsAtTheTopForStep2();
        step2NoTrolleyAtTheTop();
        step2FirstInTheQueueForThisLine();
        step2NobodyOnTheTop();
        step2RideIsCountedAsItBegins();
        step2StuckIsCountedToo();
        step2OneRiderForEachLineInAMinute();
        step2NextLineAtOnce();
        step2NextLineBehindOthers();
        step3WithoutAWay();
        step3PatienceIncludesThisMinute();
        step3PatienceOfOneWhoCameDown();
        step3LineInTimeIsTakenFirst();
        step3LeavesTheQueue();
        step3GoneIsNotAWayBack();
        step4TheMinuteIsOneGreater();
        passCountsWhoArriveInTheseMinutes();
        passOfManyIsThatOfEach();
        trolleyThatIsBroughtCountsAtOnce();
        check.end();
    }

    /** Rides of 7, 6 and 5 minutes that begin in 0, 1 and 2 end in 7, as does one on a short line that begins in 6. */
    private static ZipCanopy fourComeDownInMinute7(boolean shortLineFirst) {
        ZipCanopy canopy = new ZipCanopy();
        canopy.build(0, 0, 60);
        canopy.build(40, 0, 52);
        canopy.build(40, 1, 60);
        canopy.build(40, 40, 0);
        if (shortLineFirst) {
            canopy.span(2, 1, 120, 1);
        }
        int slow = canopy.span(0, 1, 120, 3);
        if (!shortLineFirst) {
            canopy.span(2, 1, 120, 1);
        }
        canopy.span(1, 3, 120, 1);
        check.same("ride of 50", canopy.ride(slow, 50), 7);
        check.same("ride of 60", canopy.ride(slow, 60), 6);
        check.same("ride of 80", canopy.ride(slow, 80), 5);
        check.same("ride of 100 on the short line", canopy.ride(1 - slow, 100), 1);
        canopy.setWind(7, 6);
        canopy.come(0, 3, 50, 60);
        canopy.come(0, 3, 60, 60);
        canopy.come(0, 3, 80, 60);
        canopy.pass(6);
        canopy.come(2, 3, 100, 60);
        canopy.pass(1);
        check.same("all four ride behind minute 6", canopy.count(5), 4);
        canopy.pass(1);
        return canopy;
    }

    /** "Trolleys, line by line, and of a line in the order in which they left its top". */
    private static void step1LineByLineAndAsTheyLeft() {
        queueIs(fourComeDownInMinute7(false), 1, 0, 1, 2, 3);
        queueIs(fourComeDownInMinute7(true), 1, 3, 0, 1, 2);
        ZipCanopy canopy = fourComeDownInMinute7(true);
        canopy.pass(1);
        check.same("the first of them takes the next line", canopy.rider(3, 3), RIDES);
        queueIs(canopy, 1, 0, 1, 2);
    }

    private static void queueIs(ZipCanopy canopy, int platform, int... due) {
        check.same("length of queue " + platform, canopy.platform(platform, 3), due.length);
        check.same("first of queue " + platform, canopy.platform(platform, 4), due.length == 0 ? -1 : due[0]);
        for (int i = 0; i < due.length; i++) {
            check.same("queue(" + platform + ", " + i + ")", canopy.queue(platform, i), due[i]);
        }
    }

    private static ZipCanopy lineOf(int length, int drop, int trolleys) {
        ZipCanopy canopy = new ZipCanopy();
        canopy.build(0, 0, drop);
        canopy.build(Math.min(length, 40), Math.max(length - 40, 0), 0);
        canopy.span(0, 1, 120, trolleys);
        return canopy;
    }

    /** "one that rides has a minute less to go; with none left its rider is at the bottom". */
    private static void step1RideIsOverWithNoMinuteLeft() {
        for (int length = 1; length <= 80; length++) {
            ZipCanopy canopy = lineOf(length, 10, 1);
            int ride = Math.abs(canopy.ride(0, 80));
            canopy.come(0, 1, 80, 60);
            canopy.pass(1);
            for (int left = ride; left > 0; left--) {
                check.same("state with " + left + " left of " + length, canopy.rider(0, 3), RIDES);
                check.same("minutes with " + left + " left of " + length, canopy.rider(0, 6), left);
                check.same("arrivals with " + left + " left of " + length, canopy.pass(1), left == 1 ? 1 : 0);
            }
            check.same("state over " + length, canopy.rider(0, 3), ARRIVED);
            check.same("minute of the arrival over " + length, canopy.rider(0, 10), ride);
        }
    }

    /** Three platforms; line 0 of 10, and line 1 of 20 that is closed at first; each ride takes 1 minute. */
    private static ZipCanopy secondClosedTill(int minute) {
        ZipCanopy canopy = new ZipCanopy();
        canopy.build(0, 0, 60);
        canopy.build(10, 0, 30);
        canopy.build(30, 0, 0);
        canopy.span(0, 1, 120, 1);
        canopy.span(1, 2, 120, 1);
        for (int i = 0; i < minute; i++) {
            canopy.setWind(i, 8);
        }
        return canopy;
    }

    /** "otherwise waits at the end of the queue": behind who is there, and ahead of who comes later. */
    private static void step1EndOfTheQueue() {
        ZipCanopy canopy = secondClosedTill(10);
        canopy.come(0, 2, 120, 60);
        canopy.come(1, 2, 120, 60);
        canopy.come(1, 2, 120, 60);
        queueIs(canopy, 1, 1, 2);
        canopy.pass(1);
        canopy.come(1, 2, 120, 60);
        canopy.pass(1);
        queueIs(canopy, 1, 1, 2, 3, 0);
        canopy.come(1, 2, 120, 60);
        canopy.pass(1);
        queueIs(canopy, 1, 1, 2, 3, 0, 4);
    }

    /** "from now on": what one waited further up does not count, and this minute does. */
    private static void step1WaitsFromNowOn() {
        ZipCanopy canopy = secondClosedTill(12);
        canopy.setWind(0, 9);
        canopy.setWind(1, 9);
        canopy.come(0, 2, 120, 60);
        canopy.pass(2);
        check.same("waited above", canopy.rider(0, 6), 2);
        canopy.pass(1);
        check.same("rides, and still takes", canopy.rider(0, 6), 1);
        canopy.pass(1);
        check.same("state below", canopy.rider(0, 3), WAITS);
        check.same("platform below", canopy.rider(0, 4), 1);
        check.same("waited below", canopy.rider(0, 6), 1);
        canopy.pass(1);
        check.same("waited below, a minute later", canopy.rider(0, 6), 2);
    }

    /** "the trolley is pulled up then, for (length + 9) / 10 minutes". */
    private static void step1PulledUpAsLongAsTheLineIs() {
        for (int length = 1; length <= 80; length++) {
            ZipCanopy canopy = lineOf(length, 60, 1);
            int ride = canopy.ride(0, 120);
            canopy.come(0, 1, 120, 60);
            canopy.pass(ride + 1);
            int pulled = 0;
            while (canopy.line(0, 6) == 0 && pulled < 20) {
                check.same("trolley over " + length, canopy.line(0, 5), 1);
                check.same("nobody rides up over " + length, canopy.line(0, 7), 0);
                canopy.pass(1);
                pulled++;
            }
            // as many minutes as there are tens begun
            boolean tens = 10 * pulled >= length && 10 * pulled < length + 10;
            check.isTrue("pulled for " + pulled + " over " + length, tens);
        }
    }

    /** "(not one that has just come down)": over 10 it is pulled for the 1 minute that comes next. */
    private static void step1NotOneThatHasJustComeDown() {
        ZipCanopy canopy = lineOf(10, 60, 1);
        canopy.come(0, 1, 120, 60);
        canopy.come(0, 1, 120, 60);
        canopy.pass(1);
        check.same("is down in minute 1", canopy.pass(1), 1);
        check.same("is not at the top in minute 1", canopy.line(0, 6), 0);
        check.same("nobody takes it in minute 1", canopy.rider(1, 3), WAITS);
        canopy.pass(1);
        check.same("it is taken in minute 2", canopy.rider(1, 3), RIDES);
    }

    /** "with none left it is at the top": for the step that follows, or for later. */
    private static void step1IsAtTheTopForStep2() {
        ZipCanopy canopy = lineOf(20, 60, 1);
        canopy.come(0, 1, 120, 60);
        canopy.pass(2);
        // down in minute 1, pulled up in minutes 2 and 3
        check.same("down in minute 1", canopy.line(0, 7), 0);
        canopy.pass(1);
        check.same("pulled up still", canopy.line(0, 6), 0);
        canopy.come(0, 1, 120, 1);
        canopy.pass(1);
        check.same("taken in the minute in which it is up", canopy.rider(1, 3), RIDES);
        check.same("and away again", canopy.line(0, 6), 0);
        canopy.pass(3);
        check.same("up once more", canopy.line(0, 6), 1);
    }

    /** "if a trolley is at the top": not while it rides or is pulled up. */
    private static void step2NoTrolleyAtTheTop() {
        ZipCanopy canopy = lineOf(20, 60, 1);
        for (int i = 0; i < 3; i++) {
            canopy.come(0, 1, 120, 60);
        }
        int[] waiting = {2, 2, 2, 1, 1, 1, 0};
        for (int minute = 0; minute < waiting.length; minute++) {
            canopy.pass(1);
            check.same("riders who wait behind minute " + minute, canopy.platform(0, 3), waiting[minute]);
        }
    }

    /** "the first rider in the queue of its top whose way begins with this line": others ahead of them stay. */
    private static void step2FirstInTheQueueForThisLine() {
        ZipCanopy canopy = new ZipCanopy();
        canopy.build(20, 20, 60);
        canopy.build(20, 30, 0);
        canopy.build(20, 10, 0);
        canopy.build(10, 20, 60);
        canopy.span(0, 1, 120, 2);
        canopy.span(0, 2, 120, 2);
        canopy.span(3, 1, 120, 2);
        canopy.come(0, 3, 50, 60);
        canopy.come(0, 2, 50, 60);
        canopy.come(0, 2, 50, 60);
        canopy.come(3, 1, 50, 60);
        canopy.come(0, 1, 50, 60);
        canopy.come(0, 1, 50, 60);
        canopy.pass(1);
        check.same("one without a way takes none", canopy.rider(0, 3), GONE);
        check.same("the first for line 1", canopy.rider(1, 5), 1);
        check.same("the second for line 1 waits", canopy.rider(2, 3), WAITS);
        check.same("of another platform, by its own line", canopy.rider(3, 5), 2);
        check.same("the first for line 0", canopy.rider(4, 5), 0);
        check.same("the second for line 0 waits", canopy.rider(5, 3), WAITS);
        queueIs(canopy, 0, 2, 5);
    }

    /** With an empty queue a trolley stays where it is. */
    private static void step2NobodyOnTheTop() {
        ZipCanopy canopy = secondClosedTill(0);
        canopy.come(1, 2, 120, 60);
        canopy.pass(1);
        check.same("trolley of line 0", canopy.line(0, 6), 1);
        check.same("rides of line 0", canopy.line(0, 8), 0);
        check.same("rides of line 1", canopy.line(1, 8), 1);
    }

    /** "the ride begins (and is counted, ...)": not when it ends. */
    private static void step2RideIsCountedAsItBegins() {
        ZipCanopy canopy = lineOf(80, 10, 2);
        canopy.come(0, 1, 80, 60);
        canopy.come(0, 1, 120, 60);
        check.same("rides before", canopy.count(9), 0);
        canopy.pass(1);
        check.same("rides as the first begins", canopy.count(9), 1);
        check.same("rides of the line", canopy.line(0, 8), 1);
        check.same("lines that one has taken", canopy.rider(0, 9), 1);
        check.same("lines that the other has taken", canopy.rider(1, 9), 0);
        check.same("nobody is stuck: 80 * 10 is 10 * 80", canopy.line(0, 9), 0);
        canopy.pass(100);
        check.same("rides at the end", canopy.count(9), 2);
        check.same("rides of the line at the end", canopy.line(0, 8), 2);
        check.same("lines that one took", canopy.rider(0, 9), 1);
        check.same("nobody was stuck", canopy.line(0, 9), 0);
    }

    /** "also as that of one who gets stuck, if so": it is a ride, too. */
    private static void step2StuckIsCountedToo() {
        ZipCanopy canopy = lineOf(80, 10, 3);
        canopy.come(0, 1, 79, 60);
        canopy.come(0, 1, 80, 60);
        canopy.come(0, 1, 20, 60);
        int[] stuck = {1, 1, 2};
        for (int minute = 0; minute < 3; minute++) {
            canopy.pass(1);
            check.same("rides behind minute " + minute, canopy.line(0, 8), minute + 1);
            check.same("of them stuck", canopy.line(0, 9), stuck[minute]);
        }
        // 160 at a speed of 17, 18 and 12: 10 and 9 and 14 minutes, the first and the last twice
        check.same("minutes of the first", canopy.rider(0, 6), 20 - 2);
        check.same("minutes of the second", canopy.rider(1, 6), 9 - 1);
        check.same("minutes of the third", canopy.rider(2, 6), 28);
        canopy.pass(100);
        check.same("stuck in all", canopy.line(0, 9), 2);
    }

    /** "This is at most one rider for each line in a minute", but one for each of them. */
    private static void step2OneRiderForEachLineInAMinute() {
        ZipCanopy canopy = new ZipCanopy();
        canopy.build(20, 20, 60);
        canopy.build(20, 30, 0);
        canopy.build(20, 10, 0);
        canopy.span(0, 1, 120, 3);
        canopy.span(0, 2, 120, 3);
        for (int i = 0; i < 6; i++) {
            canopy.come(0, 1 + i / 3, 50, 60);
        }
        for (int minute = 0; minute < 3; minute++) {
            canopy.pass(1);
            check.same("rides of line 0 behind minute " + minute, canopy.line(0, 8), minute + 1);
            check.same("rides of line 1 behind minute " + minute, canopy.line(1, 8), minute + 1);
        }
    }

    /** "one who came down in step 1 can take the next line": 7 lines, one in each minute, without waiting. */
    private static void step2NextLineAtOnce() {
        ZipCanopy canopy = new ZipCanopy();
        for (int i = 0; i < 8; i++) {
            canopy.build(5 * i, 0, 60 - 8 * i);
        }
        for (int i = 6; i >= 0; i--) {
            canopy.span(i, i + 1, 120, 1);
        }
        canopy.come(0, 7, 100, 1);
        for (int minute = 0; minute < 7; minute++) {
            canopy.pass(1);
            check.same("line in minute " + minute, canopy.rider(0, 5), 6 - minute);
            check.same("lines taken", canopy.rider(0, 9), minute + 1);
        }
        check.same("is there", canopy.pass(1), 1);
        check.same("arrival", canopy.rider(0, 10), 7);
    }

    /** One who comes down stands behind who waits there: these take the trolley. */
    private static void step2NextLineBehindOthers() {
        ZipCanopy canopy = secondClosedTill(1);
        canopy.come(0, 2, 120, 60);
        canopy.come(1, 2, 120, 60);
        canopy.pass(1);
        check.same("waits as line 1 is closed", canopy.rider(1, 3), WAITS);
        canopy.pass(1);
        check.same("who waited takes it", canopy.rider(1, 5), 1);
        check.same("who came down waits", canopy.rider(0, 3), WAITS);
    }

    /** "each one without a way to the goal": in the first minute, whatever the patience, uphill or too heavy. */
    private static void step3WithoutAWay() {
        ZipCanopy canopy = new ZipCanopy();
        canopy.build(0, 0, 60);
        canopy.build(10, 0, 30);
        canopy.build(20, 0, 0);
        canopy.span(0, 1, 100, 1);
        canopy.come(0, 2, 50, 60);
        canopy.come(1, 0, 50, 60);
        canopy.come(0, 1, 101, 60);
        canopy.come(0, 1, 100, 60);
        check.same("they wait", canopy.count(4), 4);
        canopy.pass(1);
        for (int i = 0; i < 3; i++) {
            check.same("state of " + i, canopy.rider(i, 3), GONE);
            check.same("platform of " + i, canopy.rider(i, 4), -1);
            check.same("minutes of " + i, canopy.rider(i, 6), 0);
            check.same("arrives " + i, canopy.arrives(i), -1);
        }
        check.same("state of who has a way", canopy.rider(3, 3), RIDES);
        check.same("gone", canopy.count(7), 3);
        canopy.come(0, 2, 50, 1);
        canopy.span(1, 2, 50, 1);
        canopy.pass(1);
        check.same("a line in time gives a way, but no more patience", canopy.rider(4, 3), GONE);
        canopy.come(0, 2, 50, 2);
        canopy.come(0, 2, 51, 60);
        canopy.pass(1);
        check.same("a way over the new line", canopy.rider(5, 9), 1);
        check.same("too heavy for the new line", canopy.rider(6, 3), GONE);
    }

    /** "as many minutes as the patience (this one included)": for each patience. */
    private static void step3PatienceIncludesThisMinute() {
        for (int patience = 1; patience <= 60; patience++) {
            ZipCanopy canopy = secondClosedTill(12);
            canopy.come(1, 2, 120, patience);
            if (patience > 1) {
                canopy.pass(patience - 1);
                check.same("state one minute before " + patience, canopy.rider(0, 3), WAITS);
                check.same("waited one minute before " + patience, canopy.rider(0, 6), patience - 1);
            }
            canopy.pass(1);
            check.same("state behind " + patience, canopy.rider(0, 3), GONE);
            check.same("gone behind " + patience, canopy.count(7), 1);
        }
    }

    /** The minute of coming down is the first of the patience. */
    private static void step3PatienceOfOneWhoCameDown() {
        for (int patience = 1; patience <= 10; patience++) {
            ZipCanopy canopy = secondClosedTill(12);
            canopy.come(0, 2, 120, patience);
            canopy.setWind(0, 0);
            canopy.pass(1);
            check.same("rides in minute 0", canopy.rider(0, 3), RIDES);
            for (int minute = 1; minute < patience; minute++) {
                canopy.pass(1);
                check.same("patience " + patience + ", behind minute " + minute, canopy.rider(0, 3), WAITS);
            }
            canopy.pass(1);
            check.same("patience " + patience + ", behind minute " + patience, canopy.rider(0, 3), GONE);
        }
    }

    /** Lines come before patience: who can ride in the last minute of it does. */
    private static void step3LineInTimeIsTakenFirst() {
        for (int patience = 1; patience <= 12; patience++) {
            ZipCanopy canopy = secondClosedTill(patience - 1);
            canopy.come(1, 2, 120, patience);
            canopy.pass(patience);
            check.same("patience " + patience + ", open in the last minute", canopy.rider(0, 3), RIDES);
            ZipCanopy late = secondClosedTill(patience);
            late.come(1, 2, 120, patience);
            late.pass(patience);
            check.same("patience " + patience + ", open a minute later", late.rider(0, 3), GONE);
        }
    }

    /** "is gone, and leaves the queue": from its end, its middle and its beginning, the others close up. */
    private static void step3LeavesTheQueue() {
        ZipCanopy canopy = secondClosedTill(12);
        int[] patiences = {4, 9, 2, 9, 9, 3, 1};
        for (int patience : patiences) {
            canopy.come(1, 2, 120, patience);
        }
        queueIs(canopy, 1, 0, 1, 2, 3, 4, 5, 6);
        canopy.pass(1);
        queueIs(canopy, 1, 0, 1, 2, 3, 4, 5);
        canopy.pass(1);
        queueIs(canopy, 1, 0, 1, 3, 4, 5);
        canopy.pass(1);
        queueIs(canopy, 1, 0, 1, 3, 4);
        canopy.pass(1);
        queueIs(canopy, 1, 1, 3, 4);
        canopy.pass(5);
        queueIs(canopy, 1);
        check.same("gone", canopy.count(7), 7);
    }

    /** Who is gone takes no line any more, even if it opens, or if there is a way now. */
    private static void step3GoneIsNotAWayBack() {
        ZipCanopy canopy = secondClosedTill(1);
        canopy.come(1, 2, 120, 1);
        canopy.come(0, 2, 120, 60);
        canopy.come(2, 0, 120, 60);
        canopy.pass(1);
        check.same("gone", canopy.rider(0, 3), GONE);
        check.same("gone without a way", canopy.rider(2, 3), GONE);
        check.same("one arrives, not two", canopy.pass(30), 1);
        check.same("still gone", canopy.rider(0, 3), GONE);
        check.same("no arrival", canopy.rider(0, 10), -1);
        check.same("no line", canopy.rider(0, 9), 0);
        check.same("rides of line 1", canopy.line(1, 8), 1);
    }

    private static void step4TheMinuteIsOneGreater() {
        ZipCanopy canopy = Scenes.full();
        for (int minute = 4; minute < 40; minute++) {
            check.same("the minute", canopy.count(0), minute);
            canopy.pass(1);
        }
    }

    /** "Returns how many riders arrived in them": also in the last of them; not at once, and not before. */
    private static void passCountsWhoArriveInTheseMinutes() {
        for (int minutes = 1; minutes <= 12; minutes++) {
            ZipCanopy canopy = lineOf(10, 60, 1);
            canopy.come(1, 1, 50, 5);
            for (int i = 0; i < 5; i++) {
                canopy.come(0, 1, 120, 60);
            }
            // they begin in 0, 2, 4, 6, 8 and arrive in 1, 3, 5, 7, 9
            int first = Math.min(minutes / 2, 5);
            check.same("pass(" + minutes + ")", canopy.pass(minutes), first);
            check.same("riders who have arrived", canopy.count(6), first + 1);
            canopy.come(1, 1, 50, 5);
            check.same("the rest", canopy.pass(50), 5 - first);
            check.same("riders who have arrived", canopy.count(6), 7);
        }
    }

    /** Many minutes at once are the same as one by one. */
    private static void passOfManyIsThatOfEach() {
        for (int minutes = 1; minutes <= 100; minutes++) {
            ZipCanopy once = minutes % 2 == 0 ? Scenes.busy() : Scenes.full();
            ZipCanopy each = minutes % 2 == 0 ? Scenes.busy() : Scenes.full();
            int arrived = 0;
            for (int i = 0; i < minutes; i++) {
                arrived += each.pass(1);
            }
            check.same("pass(" + minutes + ")", once.pass(minutes), arrived);
            check.same("digest behind pass(" + minutes + ")", once.digest(), each.digest());
        }
    }

    /** Promise 4: "Brings a trolley more to the top of a line": it can be taken in this very minute. */
    private static void trolleyThatIsBroughtCountsAtOnce() {
        ZipCanopy canopy = lineOf(20, 60, 1);
        canopy.come(0, 1, 120, 60);
        canopy.come(0, 1, 120, 60);
        canopy.pass(1);
        check.same("add", canopy.add(0), 2);
        check.same("at the top", canopy.line(0, 6), 1);
        canopy.pass(1);
        check.same("taken", canopy.rider(1, 3), RIDES);
        check.same("at the top", canopy.line(0, 6), 0);
        check.same("trolleys", canopy.line(0, 5), 2);
        // down in 1 and 2, pulled up for 2 each
        canopy.pass(2);
        check.same("the first is up behind minute 3", canopy.line(0, 6), 1);
        canopy.pass(1);
        check.same("the second is up behind minute 4", canopy.line(0, 6), 2);
    }
}
