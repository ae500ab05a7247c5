/** The edges of arrives, advise and mean, and that who only asks changes nothing. */
public final class EdgesOfLookingAheadTest {
    private static final Check check = new Check("edges of looking ahead");

    public static void main(String[] args) {
        askingChangesNothing();
        arrivesIsWhatPassingShows();
        arrivesInTheNextMinute();
        arrivesInTheLastOf200Minutes();
        arrivesOfOneWhoRidesAlready();
        arrivesOfOneWhoseEndComesFirst();
        arrivesOfOneWhoIsGone();
        arrivesOfOneWhoHasArrived();
        adviseIsWhatTryingShows();
        adviseOnlyIfMoreThanWithout();
        adviseOfSeveralTheSmallestNumber();
        adviseTheMostThoughTheNumberIsGreater();
        adviseOfOneTrolleyMoreNotTwo();
        adviseWithTwoButNotWithThree();
        adviseBehindSoManyMinutes();
        adviseCountsAllWhoHaveArrived();
        meanIsNotCut();
        meanOfTwelve();
        check.end();
    }

    private static void asks(String what, Check.Act act) {
        check.leavesNoTrace(Scenes::busy, what + ", places left", act);
        check.leavesNoTrace(Scenes::full, what + ", all places taken", act);
    }

    /** "(nothing is changed)", and calls that only tell something. */
    private static void askingChangesNothing() {
        for (int minutes = 1; minutes <= 30; minutes++) {
            int asked = minutes;
            asks("advise(" + asked + ")", c -> c.advise(asked));
        }
        for (int rider = 0; rider < Scenes.BUSY_RIDERS; rider++) {
            int asked = rider;
            asks("arrives(" + asked + ")", c -> c.arrives(asked));
        }
        asks("arrives and advise, mixed", c -> {
            for (int i = 0; i < 7; i++) {
                c.arrives(6 - i);
                c.advise(30 - i);
                c.arrives(i);
            }
        });
        asks("way", c -> {
            c.way(0, 4, 20);
            c.way(4, 0, 120);
            c.way(3, 3, 50);
        });
        asks("ride, platform, line, rider and count", c -> {
            for (int what = 0; what <= 7; what++) {
                c.ride(what % 5, 20 + what);
                c.platform(what % 5, what);
                c.line(what % 5, what);
                c.rider(what % 7, what);
                c.count(what);
            }
        });
        asks("queue, mean and digest", c -> {
            c.queue(1, 0);
            c.mean();
            c.digest();
        });
    }

    /** "in which minute this one arrives, if 200 minutes go by from now on": let them go by. */
    private static void arrivesIsWhatPassingShows() {
        for (int passed = 0; passed < 40; passed += 3) {
            arrivesLikeIn200Minutes(Scenes.busy(), Scenes.busy(), passed);
            arrivesLikeIn200Minutes(Scenes.full(), Scenes.full(), passed);
        }
    }

    private static void arrivesLikeIn200Minutes(ZipCanopy asked, ZipCanopy passed, int first) {
        for (int i = 0; i < first; i++) {
            asked.pass(1);
            passed.pass(1);
        }
        passed.pass(100);
        passed.pass(100);
        for (int i = 0; i < asked.count(3); i++) {
            check.same("behind " + first + " arrives(" + i + ")", asked.arrives(i), passed.rider(i, 10));
        }
    }

    private static ZipCanopy lineOf(int length, int drop, int trolleys) {
        ZipCanopy canopy = new ZipCanopy();
        canopy.build(0, 0, drop);
        canopy.build(Math.min(length, 40), Math.max(length - 40, 0), 0);
        canopy.span(0, 1, 120, trolleys);
        return canopy;
    }

    /** The soonest that one can arrive: in the minute that it is, if the ride has one minute left. */
    private static void arrivesInTheNextMinute() {
        ZipCanopy canopy = lineOf(10, 60, 1);
        canopy.pass(7);
        canopy.come(0, 1, 120, 60);
        check.same("one who waits arrives", canopy.arrives(0), 8);
        canopy.pass(1);
        check.same("it is minute 8, and there is one minute left", canopy.rider(0, 6), 1);
        check.same("one who rides arrives", canopy.arrives(0), 8);
        canopy.pass(1);
        check.same("one who arrived", canopy.arrives(0), 8);
    }

    /** "if 200 minutes go by from now on": rides of 108 and 98 minutes, so the arrival is in minute 206. */
    private static void arrivesInTheLastOf200Minutes() {
        ZipCanopy canopy = new ZipCanopy();
        canopy.build(0, 0, 2);
        canopy.build(40, 40, 1);
        canopy.build(0, 7, 0);
        canopy.span(0, 1, 120, 1);
        canopy.span(1, 2, 120, 1);
        canopy.come(0, 2, 20, 60);
        check.same("the first ride", canopy.ride(0, 20), -108);
        check.same("the second ride", canopy.ride(1, 20), -98);
        check.same("arrives in minute 206, which is too late", canopy.arrives(0), -1);
        canopy.pass(6);
        check.same("minute 206 is the 201st from 6 on", canopy.arrives(0), -1);
        canopy.pass(1);
        check.same("minute 206 is the 200th from 7 on", canopy.arrives(0), 206);
        check.same("200 minutes go by", canopy.pass(100) + canopy.pass(100), 1);
        check.same("arrival", canopy.rider(0, 10), 206);
        check.same("the minute", canopy.count(0), 207);
    }

    private static void arrivesOfOneWhoRidesAlready() {
        ZipCanopy canopy = lineOf(80, 1, 1);
        canopy.come(0, 1, 20, 60);
        for (int minute = 0; minute < 108; minute++) {
            check.same("arrives, asked in minute " + minute, canopy.arrives(0), 108);
            check.same("pass(1) in minute " + minute, canopy.pass(1), 0);
        }
        check.same("pass(1) in minute 108", canopy.pass(1), 1);
    }

    /** 3 minutes down and 3 up: the second leaves in minute 6, with a patience of 7 or more. */
    private static void arrivesOfOneWhoseEndComesFirst() {
        for (int patience = 1; patience <= 10; patience++) {
            ZipCanopy canopy = lineOf(30, 17, 1);
            canopy.come(0, 1, 120, 60);
            canopy.come(0, 1, 120, patience);
            check.same("arrives with a patience of " + patience, canopy.arrives(1), patience < 7 ? -1 : 9);
            check.same("arrives ahead", canopy.arrives(0), 3);
        }
    }

    private static void arrivesOfOneWhoIsGone() {
        ZipCanopy canopy = lineOf(30, 17, 1);
        canopy.come(1, 0, 50, 60);
        canopy.come(0, 1, 120, 60);
        canopy.come(0, 1, 120, 1);
        check.same("arrives without a way", canopy.arrives(0), -1);
        check.same("arrives without patience", canopy.arrives(2), -1);
        canopy.pass(1);
        check.same("gone without a way", canopy.rider(0, 3), 3);
        check.same("gone without patience", canopy.rider(2, 3), 3);
        check.same("arrives, gone without a way", canopy.arrives(0), -1);
        check.same("arrives, gone without patience", canopy.arrives(2), -1);
        canopy.pass(100);
        check.same("arrives, long gone", canopy.arrives(0), -1);
    }

    /** "the minute of the arrival, if there was one", also of one who came to the goal at once, and long ago. */
    private static void arrivesOfOneWhoHasArrived() {
        ZipCanopy canopy = lineOf(30, 17, 1);
        canopy.come(1, 1, 50, 1);
        canopy.come(0, 1, 120, 60);
        canopy.pass(5);
        canopy.come(1, 1, 50, 1);
        canopy.pass(100);
        canopy.pass(100);
        canopy.pass(100);
        check.same("in minute 0 at once", canopy.arrives(0), 0);
        check.same("in minute 3", canopy.arrives(1), 3);
        check.same("in minute 5 at once", canopy.arrives(2), 5);
    }

    /** For each number of minutes: bring a trolley to each line in turn, on a canopy of its own, and count. */
    private static void adviseIsWhatTryingShows() {
        int some = 0;
        for (int minutes = 1; minutes <= 30; minutes++) {
            for (int passed = 0; passed < 12; passed++) {
                some += adviseLikeTried(Scenes::busy, passed, minutes);
                some += adviseLikeTried(Scenes::full, passed, minutes);
                some += adviseLikeTried(EdgesOfLookingAheadTest::crowd, passed, minutes);
            }
        }
        check.isTrue("often a line is advised: " + some, some > 100);
    }

    /** Many riders on each of three lines, of which the second has two trolleys and the third has three. */
    private static ZipCanopy crowd() {
        ZipCanopy canopy = new ZipCanopy();
        canopy.build(0, 0, 60);
        canopy.build(40, 0, 20);
        canopy.build(0, 40, 20);
        canopy.build(25, 25, 20);
        canopy.span(0, 1, 120, 1);
        canopy.span(0, 2, 120, 2);
        canopy.span(0, 3, 120, 3);
        for (int i = 0; i < 12; i++) {
            canopy.come(0, 1 + i % 3, 30 + 5 * i, 20 + i);
        }
        return canopy;
    }

    /** 1 if a line is advised, 0 if none. */
    private static int adviseLikeTried(Scenes.Scene scene, int passed, int minutes) {
        ZipCanopy canopy = after(scene, passed);
        int lines = canopy.count(2);
        ZipCanopy without = after(scene, passed);
        without.pass(minutes);
        int most = without.count(6);
        int due = -1;
        for (int line = 0; line < lines; line++) {
            ZipCanopy with = after(scene, passed);
            if (with.line(line, 5) < 3) {
                with.add(line);
                with.pass(minutes);
                if (with.count(6) > most) {
                    most = with.count(6);
                    due = line;
                }
            }
        }
        check.same("advise(" + minutes + ") behind " + passed, canopy.advise(minutes), due);
        return due < 0 ? 0 : 1;
    }

    private static ZipCanopy after(Scenes.Scene scene, int passed) {
        ZipCanopy canopy = scene.make();
        for (int i = 0; i < passed; i++) {
            canopy.pass(1);
        }
        return canopy;
    }

    /** "but none, if these are not more than without": as many are not more, and there is a line to be advised. */
    private static void adviseOnlyIfMoreThanWithout() {
        ZipCanopy canopy = lineOf(30, 17, 1);
        canopy.come(0, 1, 120, 60);
        for (int minutes = 1; minutes <= 30; minutes++) {
            check.same("one rider, advise(" + minutes + ")", canopy.advise(minutes), -1);
        }
        canopy.come(0, 1, 120, 60);
        // the second arrives in minute 9, or in minute 4 with one more
        for (int minutes = 1; minutes <= 30; minutes++) {
            boolean helps = minutes > 4 && minutes < 10;
            check.same("two riders, advise(" + minutes + ")", canopy.advise(minutes), helps ? 0 : -1);
        }
    }

    /** Two riders each for lines 1 and 3, alike; line 0 leads elsewhere, and line 2 is slow. */
    private static void adviseOfSeveralTheSmallestNumber() {
        ZipCanopy canopy = new ZipCanopy();
        canopy.build(20, 20, 60);
        canopy.build(20, 30, 40);
        canopy.build(30, 20, 40);
        canopy.build(20, 10, 40);
        canopy.build(0, 0, 58);
        canopy.span(0, 3, 120, 1);
        canopy.span(0, 1, 120, 1);
        canopy.span(0, 4, 120, 1);
        canopy.span(0, 2, 120, 1);
        for (int i = 0; i < 2; i++) {
            canopy.come(0, 2, 100, 60);
            canopy.come(0, 1, 100, 60);
            canopy.come(0, 4, 20, 60);
        }
        // 1 minute down and 1 up: the second ones arrive in minute 3, or in minute 2 with one more
        check.same("advise(2)", canopy.advise(2), -1);
        check.same("advise(3)", canopy.advise(3), 1);
        check.same("advise(4)", canopy.advise(4), -1);
        canopy.add(1);
        check.same("advise(3) when line 1 has two", canopy.advise(3), 3);
    }

    private static void adviseTheMostThoughTheNumberIsGreater() {
        ZipCanopy canopy = new ZipCanopy();
        canopy.build(0, 0, 60);
        canopy.build(30, 0, 20);
        canopy.build(0, 30, 20);
        canopy.span(0, 1, 120, 1);
        canopy.span(0, 2, 120, 1);
        for (int i = 0; i < 2; i++) {
            canopy.come(0, 1, 120, 60);
            canopy.come(0, 2, 120, 60);
        }
        canopy.come(0, 2, 120, 60);
        canopy.come(0, 2, 120, 60);
        // 60 at a speed of 52: 2 minutes down and 3 up; rides of line 1 begin in 0, 5, 10, 15, or in 0, 1, 5, 6
        check.same("advise(4): one more each", canopy.advise(4), 0);
        check.same("advise(8): line 0 has none left by then", canopy.advise(8), 1);
        check.same("advise(9): two more by line 1", canopy.advise(9), 1);
        ZipCanopy both = new ZipCanopy();
        both.build(0, 0, 60);
        both.build(30, 0, 20);
        both.build(0, 10, 20);
        both.span(0, 1, 120, 1);
        both.span(0, 2, 120, 1);
        both.come(0, 1, 120, 60);
        both.come(0, 1, 120, 60);
        for (int i = 0; i < 8; i++) {
            both.come(0, 2, 120, 60);
        }
        // line 1: 1 down and 1 up: one in each second minute, or, with one more, one in each; in minutes 1 to 3: 2 or 3
        check.same("advise(4): one more each, with line 0 first", both.advise(4), 0);
        // in minutes 1 to 5: 3 or 5
        check.same("advise(6): one more by line 0, two more by line 1", both.advise(6), 1);
    }

    /** "where one trolley more now helps most": two more would help line 1 most, one more helps both alike. */
    private static void adviseOfOneTrolleyMoreNotTwo() {
        ZipCanopy canopy = new ZipCanopy();
        canopy.build(0, 0, 60);
        canopy.build(30, 0, 20);
        canopy.build(0, 30, 20);
        canopy.span(0, 1, 120, 1);
        canopy.span(0, 2, 120, 1);
        for (int i = 0; i < 6; i++) {
            canopy.come(0, i < 2 ? 1 : 2, 120, 60);
        }
        // 2 minutes down and 3 up: rides begin in 0 and 5, with one more in 0, 1 and 5, with two more in 0, 1, 2 and 5
        check.same("advise(4)", canopy.advise(4), 0);
        check.same("advise(5)", canopy.advise(5), 0);
        check.same("advise(6)", canopy.advise(6), 0);
    }

    /** "of those with fewer than 3". */
    private static void adviseWithTwoButNotWithThree() {
        ZipCanopy canopy = lineOf(40, 40, 1);
        for (int i = 0; i < 12; i++) {
            canopy.come(0, 1, 120, 60);
        }
        check.same("with one", canopy.advise(30), 0);
        check.same("add", canopy.add(0), 2);
        check.same("with two", canopy.advise(30), 0);
        check.same("add", canopy.add(0), 3);
        for (int minutes = 1; minutes <= 30; minutes++) {
            check.same("with three, advise(" + minutes + ")", canopy.advise(minutes), -1);
        }
        ZipCanopy other = new ZipCanopy();
        other.build(0, 0, 60);
        other.build(40, 0, 20);
        other.build(0, 40, 20);
        other.span(0, 1, 120, 3);
        other.span(0, 2, 120, 1);
        for (int i = 0; i < 12; i++) {
            other.come(0, i < 8 ? 1 : 2, 120, 60);
        }
        check.same("the other, if the first has three", other.advise(20), 1);
    }

    /** An arrival in the last of these minutes counts, one in the minute behind them does not. */
    private static void adviseBehindSoManyMinutes() {
        for (int length = 10; length <= 80; length += 5) {
            ZipCanopy canopy = lineOf(length, 10, 1);
            canopy.pass(length);
            int ride = canopy.ride(0, 80);
            canopy.come(0, 1, 80, 60);
            canopy.come(0, 1, 80, 60);
            int pull = (length + 9) / 10;
            // the second leaves in the next minute, or when the trolley is up
            for (int minutes = 1; minutes <= 30; minutes++) {
                boolean helps = minutes >= ride + 2 && minutes < ride + pull + ride + 1;
                check.same("over " + length + " advise(" + minutes + ")", canopy.advise(minutes), helps ? 0 : -1);
            }
        }
    }

    /** Those who have arrived before are there with and without, so they do not show. */
    private static void adviseCountsAllWhoHaveArrived() {
        ZipCanopy canopy = lineOf(30, 17, 1);
        for (int i = 0; i < 8; i++) {
            canopy.come(1, 1, 50, 5);
        }
        canopy.come(0, 1, 120, 60);
        canopy.pass(10);
        check.same("nine are there", canopy.count(6), 9);
        check.same("advise when all are there", canopy.advise(30), -1);
        canopy.come(0, 1, 120, 60);
        canopy.come(0, 1, 120, 60);
        check.same("advise(4)", canopy.advise(4), -1);
        check.same("advise(5)", canopy.advise(5), 0);
    }

    /** "the mean minute": a double, so that nothing of it is cut. */
    private static void meanIsNotCut() {
        ZipCanopy canopy = lineOf(10, 60, 1);
        canopy.pass(1);
        canopy.come(1, 1, 50, 5);
        check.sameDouble("mean of 1", canopy.mean(), 1.0);
        canopy.pass(1);
        canopy.come(1, 1, 50, 5);
        check.sameDouble("mean of 1 and 2", canopy.mean(), 1.5);
        canopy.come(1, 1, 50, 5);
        check.sameDouble("mean of 1, 2 and 2", canopy.mean(), 5.0 / 3.0);
        canopy.come(0, 1, 120, 60);
        check.sameDouble("mean with one who waits", canopy.mean(), 5.0 / 3.0);
        canopy.pass(2);
        check.sameDouble("mean of 1, 2, 2 and 3", canopy.mean(), 2.0);
    }

    private static void meanOfTwelve() {
        ZipCanopy canopy = lineOf(10, 60, 1);
        for (int i = 0; i < 12; i++) {
            canopy.pass(100);
            canopy.pass(100);
            canopy.pass(100);
            canopy.come(1, 1, 50, 5);
        }
        check.sameDouble("mean of 300, 600, ... 3600", canopy.mean(), 1950.0);
        ZipCanopy first = lineOf(10, 60, 1);
        for (int i = 0; i < 11; i++) {
            first.come(1, 1, 50, 5);
        }
        first.pass(1);
        first.come(1, 1, 50, 5);
        check.sameDouble("mean of eleven 0 and one 1", first.mean(), 1.0 / 12.0);
    }
}
