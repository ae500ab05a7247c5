/** Zip lines in the canopy. The document says what each call answers; README.md how the file is laid out. */
public final class ZipCanopy {
    private static final int MOST_PLATFORMS = 8;
    private static final int MOST_LINES = 12;
    private static final int MOST_RIDERS = 12;
    private static final int MOST_TROLLEYS = 3;
    private static final int WIND_MINUTES = 12;

    private static final int PLATFORM_FACTS = 8;
    private static final int LINE_FACTS = 11;
    private static final int RIDER_FACTS = 11;
    private static final int COUNTS = 10;

    private static final int LEAST_WEIGHT = 20;
    private static final int MOST_WEIGHT = 120;
    private static final int MINUTES_AHEAD = 200;

    private static final int WAITS = 0;
    private static final int RIDES = 1;
    private static final int ARRIVED = 2;
    private static final int GONE = 3;
    private static final int NONE = -1;

    private final Layout layout;
    private final Traffic now;
    /** Looking ahead happens on this copy, so that nothing is changed; it is made once and used again. */
    private final Traffic ahead;
    private final Route asked;

    public ZipCanopy() {
        layout = new Layout();
        now = new Traffic(layout);
        ahead = new Traffic(layout);
        asked = new Route();
    }

    // ---- platforms and lines

    public int build(int x, int y, int height) throws IllegalArgumentException, IllegalStateException {
        if (!within(x, 0, 40) || !within(y, 0, 40) || !within(height, 0, 60)) {
            throw new IllegalArgumentException("x and y are 0 to 40, the height is 0 to 60");
        }
        if (layout.hasPlatformAt(x, y) || layout.platformCount >= MOST_PLATFORMS) {
            throw new IllegalStateException("the place is taken, or there are 8 platforms");
        }
        return layout.addPlatform(x, y, height);
    }

    public int span(int top, int bottom, int most, int trolleys)
            throws IndexOutOfBoundsException, IllegalArgumentException, IllegalStateException {
        if (!isPlatform(top) || !isPlatform(bottom)) {
            throw new IndexOutOfBoundsException("no such platform");
        }
        if (!layout.isLower(bottom, top) || !within(most, 20, 150) || !within(trolleys, 1, MOST_TROLLEYS)) {
            throw new IllegalArgumentException("the bottom is lower, most is 20 to 150, trolleys are 1 to 3");
        }
        if (layout.lineCount >= MOST_LINES) {
            throw new IllegalStateException("there are 12 lines");
        }
        int line = layout.addLine(top, bottom, most);
        now.addTrolleys(line, trolleys);
        return line;
    }

    public int add(int line) throws IndexOutOfBoundsException, IllegalStateException {
        if (!isLine(line)) {
            throw new IndexOutOfBoundsException("no such line");
        }
        if (now.trolleys[line].inAll() >= MOST_TROLLEYS) {
            throw new IllegalStateException("the line has 3 trolleys");
        }
        now.addTrolleys(line, 1);
        return now.trolleys[line].inAll();
    }

    public int setWind(int minute, int wind) throws IndexOutOfBoundsException, IllegalArgumentException {
        if (!within(minute, 0, WIND_MINUTES - 1)) {
            throw new IndexOutOfBoundsException("the minute is 0 to 11");
        }
        if (!within(wind, 0, 9)) {
            throw new IllegalArgumentException("the wind is 0 to 9");
        }
        int before = layout.winds[minute];
        layout.winds[minute] = wind;
        return before;
    }

    public int platform(int platform, int what) throws IndexOutOfBoundsException {
        if (!isPlatform(platform) || !within(what, 0, PLATFORM_FACTS - 1)) {
            throw new IndexOutOfBoundsException("no such platform, or what is not 0 to 7");
        }
        return platformFact(platform, what);
    }

    public int line(int line, int what) throws IndexOutOfBoundsException {
        if (!isLine(line) || !within(what, 0, LINE_FACTS - 1)) {
            throw new IndexOutOfBoundsException("no such line, or what is not 0 to 10");
        }
        return lineFact(line, what);
    }

    public int ride(int line, int weight) throws IndexOutOfBoundsException, IllegalArgumentException {
        if (!isLine(line)) {
            throw new IndexOutOfBoundsException("no such line");
        }
        if (!isWeight(weight)) {
            throw new IllegalArgumentException("the weight is 20 to 120");
        }
        Line ridden = layout.lines[line];
        if (!ridden.carries(weight)) {
            return 0;
        }
        return ridden.getsStuck(weight) ? -ridden.rideMinutes(weight) : ridden.rideMinutes(weight);
    }

    // ---- riders

    public int come(int platform, int goal, int weight, int patience)
            throws IndexOutOfBoundsException, IllegalArgumentException, IllegalStateException {
        if (!isPlatform(platform) || !isPlatform(goal)) {
            throw new IndexOutOfBoundsException("no such platform or goal");
        }
        if (!isWeight(weight) || !within(patience, 1, 60)) {
            throw new IllegalArgumentException("the weight is 20 to 120, the patience 1 to 60");
        }
        if (layout.riderCount >= MOST_RIDERS) {
            throw new IllegalStateException("there are 12 riders");
        }
        int rider = layout.addRider(goal, weight, patience);
        now.reach(rider, platform);
        return rider;
    }

    public int rider(int rider, int what) throws IndexOutOfBoundsException {
        if (!isRider(rider) || !within(what, 0, RIDER_FACTS - 1)) {
            throw new IndexOutOfBoundsException("no such rider, or what is not 0 to 10");
        }
        return riderFact(rider, what);
    }

    public int queue(int platform, int index) throws IndexOutOfBoundsException {
        if (!isPlatform(platform) || !within(index, 0, now.queueLength(platform) - 1)) {
            throw new IndexOutOfBoundsException("no such platform or place in its queue");
        }
        return now.inQueue(platform, index);
    }

    // ---- minutes

    public int pass(int minutes) throws IllegalArgumentException {
        if (!within(minutes, 1, 100)) {
            throw new IllegalArgumentException("the minutes are 1 to 100");
        }
        return now.goOn(minutes);
    }

    public int count(int what) throws IndexOutOfBoundsException {
        if (!within(what, 0, COUNTS - 1)) {
            throw new IndexOutOfBoundsException("what is not 0 to 9");
        }
        return countFact(what);
    }

    // ---- looking ahead

    public int way(int from, int to, int weight) throws IndexOutOfBoundsException, IllegalArgumentException {
        if (!isPlatform(from) || !isPlatform(to)) {
            throw new IndexOutOfBoundsException("no such platform");
        }
        if (!isWeight(weight)) {
            throw new IllegalArgumentException("the weight is 20 to 120");
        }
        asked.plan(layout, to, weight);
        return asked.linesFrom(from);
    }

    public int arrives(int rider) throws IndexOutOfBoundsException {
        if (!isRider(rider)) {
            throw new IndexOutOfBoundsException("no such rider");
        }
        ahead.copyFrom(now);
        Trip trip = ahead.trips[rider];
        for (int i = 0; i < MINUTES_AHEAD && trip.isUnderWay(); i++) {
            ahead.passMinute();
        }
        return trip.arrival;
    }

    public int advise(int minutes) throws IllegalArgumentException {
        if (!within(minutes, 1, 30)) {
            throw new IllegalArgumentException("the minutes are 1 to 30");
        }
        ahead.copyFrom(now);
        int most = ahead.goOn(minutes);
        int best = NONE;
        for (int i = 0; i < layout.lineCount; i++) {
            if (now.trolleys[i].inAll() < MOST_TROLLEYS) {
                int arrivals = arrivalsWithOneMore(i, minutes);
                if (arrivals > most) {
                    most = arrivals;
                    best = i;
                }
            }
        }
        return best;
    }

    public double mean() {
        int arrived = 0;
        int sum = 0;
        for (int i = 0; i < layout.riderCount; i++) {
            if (now.trips[i].state == ARRIVED) {
                arrived++;
                sum += now.trips[i].arrival;
            }
        }
        return arrived == 0 ? 0.0 : (double) sum / (double) arrived;
    }

    public long digest() {
        long d = 593;
        for (int what = 0; what < COUNTS; what++) {
            d = d * 31 + countFact(what);
        }
        for (int minute = 0; minute < WIND_MINUTES; minute++) {
            d = d * 31 + layout.winds[minute];
        }
        for (int i = 0; i < layout.platformCount; i++) {
            d = digestPlatform(d, i);
        }
        for (int i = 0; i < layout.lineCount; i++) {
            for (int what = 0; what < LINE_FACTS; what++) {
                d = d * 31 + lineFact(i, what);
            }
        }
        for (int i = 0; i < layout.riderCount; i++) {
            for (int what = 0; what < RIDER_FACTS; what++) {
                d = d * 31 + riderFact(i, what);
            }
        }
        return d;
    }

    // ---- what the calls share

    private static boolean within(int number, int least, int most) {
        return number >= least && number <= most;
    }

    private static boolean isWeight(int weight) {
        return within(weight, LEAST_WEIGHT, MOST_WEIGHT);
    }

    private boolean isPlatform(int number) {
        return within(number, 0, layout.platformCount - 1);
    }

    private boolean isLine(int number) {
        return within(number, 0, layout.lineCount - 1);
    }

    private boolean isRider(int number) {
        return within(number, 0, layout.riderCount - 1);
    }

    private int arrivalsWithOneMore(int line, int minutes) {
        ahead.copyFrom(now);
        ahead.addTrolleys(line, 1);
        return ahead.goOn(minutes);
    }

    private long digestPlatform(long before, int platform) {
        long d = before;
        for (int what = 0; what < PLATFORM_FACTS; what++) {
            d = d * 31 + platformFact(platform, what);
        }
        for (int i = 0; i < now.queueLength(platform); i++) {
            d = d * 31 + now.inQueue(platform, i);
        }
        return d;
    }

    private int platformFact(int number, int what) {
        Platform platform = layout.platforms[number];
        switch (what) {
            case 0:
                return platform.x;
            case 1:
                return platform.y;
            case 2:
                return platform.height;
            case 3:
                return now.queueLength(number);
            case 4:
                return now.inQueue(number, 0);
            case 5:
                return layout.linesWithTop(number);
            case 6:
                return layout.linesWithBottom(number);
            default:
                return now.arrivedAt(number);
        }
    }

    private int lineFact(int number, int what) {
        Line line = layout.lines[number];
        Trolleys trolleys = now.trolleys[number];
        switch (what) {
            case 0:
                return line.top;
            case 1:
                return line.bottom;
            case 2:
                return line.most;
            case 3:
                return line.length;
            case 4:
                return line.drop;
            case 5:
                return trolleys.inAll();
            case 6:
                return trolleys.atTop;
            case 7:
                return trolleys.ridden();
            case 8:
                return trolleys.rides;
            case 9:
                return trolleys.stuck;
            default:
                return layout.isClosed(line, now.minute) ? 1 : 0;
        }
    }

    private int riderFact(int number, int what) {
        Rider rider = layout.riders[number];
        Trip trip = now.trips[number];
        switch (what) {
            case 0:
                return rider.weight;
            case 1:
                return rider.patience;
            case 2:
                return rider.goal;
            case 3:
                return trip.state;
            case 4:
                return trip.platform;
            case 5:
                return trip.line;
            case 6:
                return trip.minutes;
            case 7:
                return trip.state == WAITS ? Math.max(rider.route.linesFrom(trip.platform), 0) : 0;
            case 8:
                return trip.state == WAITS ? rider.route.firstFrom(trip.platform) : NONE;
            case 9:
                return trip.taken;
            default:
                return trip.arrival;
        }
    }

    private int countFact(int what) {
        switch (what) {
            case 0:
                return now.minute;
            case 1:
                return layout.platformCount;
            case 2:
                return layout.lineCount;
            case 3:
                return layout.riderCount;
            case 4:
                return now.ridersIn(WAITS);
            case 5:
                return now.ridersIn(RIDES);
            case 6:
                return now.ridersIn(ARRIVED);
            case 7:
                return now.ridersIn(GONE);
            case 8:
                return now.trolleysInAll();
            default:
                return now.ridesInAll();
        }
    }

    // ---- what minutes do not change

    /** The platforms, the lines, the wind and who has come. */
    private static final class Layout {
        final Platform[] platforms = new Platform[MOST_PLATFORMS];
        final Line[] lines = new Line[MOST_LINES];
        final Rider[] riders = new Rider[MOST_RIDERS];
        final int[] winds = new int[WIND_MINUTES];
        int platformCount;
        int lineCount;
        int riderCount;

        /** All rows are full from the start, so that no element is ever null. */
        Layout() {
            for (int i = 0; i < MOST_PLATFORMS; i++) {
                platforms[i] = new Platform();
            }
            for (int i = 0; i < MOST_LINES; i++) {
                lines[i] = new Line();
            }
            for (int i = 0; i < MOST_RIDERS; i++) {
                riders[i] = new Rider();
            }
        }

        boolean hasPlatformAt(int x, int y) {
            for (int i = 0; i < platformCount; i++) {
                if (platforms[i].x == x && platforms[i].y == y) {
                    return true;
                }
            }
            return false;
        }

        boolean isLower(int platform, int other) {
            return platforms[platform].height < platforms[other].height;
        }

        int addPlatform(int x, int y, int height) {
            int number = platformCount;
            platforms[number].x = x;
            platforms[number].y = y;
            platforms[number].height = height;
            platformCount++;
            return number;
        }

        int addLine(int top, int bottom, int most) {
            int number = lineCount;
            Line line = lines[number];
            line.top = top;
            line.bottom = bottom;
            line.most = most;
            line.length = platforms[top].distanceTo(platforms[bottom]);
            line.drop = platforms[top].height - platforms[bottom].height;
            lineCount++;
            // a new line can give a way, or a shorter one, to those who are here already
            for (int i = 0; i < riderCount; i++) {
                riders[i].planRoute(this);
            }
            return number;
        }

        int addRider(int goal, int weight, int patience) {
            int number = riderCount;
            Rider rider = riders[number];
            rider.goal = goal;
            rider.weight = weight;
            rider.patience = patience;
            rider.planRoute(this);
            riderCount++;
            return number;
        }

        int linesWithTop(int platform) {
            int found = 0;
            for (int i = 0; i < lineCount; i++) {
                if (lines[i].top == platform) {
                    found++;
                }
            }
            return found;
        }

        int linesWithBottom(int platform) {
            int found = 0;
            for (int i = 0; i < lineCount; i++) {
                if (lines[i].bottom == platform) {
                    found++;
                }
            }
            return found;
        }

        boolean isClosed(Line line, int minute) {
            int wind = winds[Math.floorMod(minute, WIND_MINUTES)];
            return line.length > 80 - 8 * wind;
        }
    }

    private static final class Platform {
        int x;
        int y;
        int height;

        int distanceTo(Platform other) {
            return Math.abs(x - other.x) + Math.abs(y - other.y);
        }
    }

    private static final class Line {
        int top;
        int bottom;
        int most;
        int length;
        int drop;

        boolean carries(int weight) {
            return weight <= most;
        }

        boolean getsStuck(int weight) {
            return weight * drop < 10 * length;
        }

        int rideMinutes(int weight) {
            int speed = drop + weight / 10;
            if (speed <= 0) {
                return 0;
            }
            int minutes = (2 * length + speed - 1) / speed;
            return getsStuck(weight) ? 2 * minutes : minutes;
        }

        int pullMinutes() {
            return (length + 9) / 10;
        }
    }

    private static final class Rider {
        final Route route = new Route();
        int goal;
        int weight;
        int patience;

        void planRoute(Layout layout) {
            route.plan(layout, goal, weight);
        }
    }

    /** The ways of one weight to one goal from every platform; only a new line can change them. */
    private static final class Route {
        private final int[] lines = new int[MOST_PLATFORMS];
        private final int[] first = new int[MOST_PLATFORMS];

        void plan(Layout layout, int goal, int weight) {
            for (int i = 0; i < MOST_PLATFORMS; i++) {
                lines[i] = i == goal ? 0 : NONE;
                first[i] = NONE;
            }
            // a way goes down all the time, so it has fewer lines than there are platforms
            for (int far = 1; far < layout.platformCount; far++) {
                for (int i = 0; i < layout.lineCount; i++) {
                    extend(layout.lines[i], i, far, weight);
                }
            }
        }

        /** Lines are tried in ascending order: the first that gives a platform its way has the smallest number. */
        private void extend(Line line, int number, int far, int weight) {
            int top = line.top;
            if (!within(top, 0, MOST_PLATFORMS - 1) || lines[top] != NONE) {
                return;
            }
            if (line.carries(weight) && linesFrom(line.bottom) == far - 1) {
                lines[top] = far;
                first[top] = number;
            }
        }

        /** How many lines the way has, NONE if there is none. */
        int linesFrom(int platform) {
            return within(platform, 0, MOST_PLATFORMS - 1) ? lines[platform] : NONE;
        }

        /** The line with which the way begins, NONE at the goal and without a way. */
        int firstFrom(int platform) {
            return within(platform, 0, MOST_PLATFORMS - 1) ? first[platform] : NONE;
        }
    }

    // ---- what minutes change

    /** Where everybody and every trolley is. */
    private static final class Traffic {
        final Layout layout;
        final Trip[] trips = new Trip[MOST_RIDERS];
        final Trolleys[] trolleys = new Trolleys[MOST_LINES];
        /** All who wait, in the order in which they began to; a platform's queue is those of them who wait there. */
        final int[] waiting = new int[MOST_RIDERS];
        int waitingCount;
        int minute;

        Traffic(Layout layout) {
            this.layout = layout;
            for (int i = 0; i < MOST_RIDERS; i++) {
                trips[i] = new Trip();
            }
            for (int i = 0; i < MOST_LINES; i++) {
                trolleys[i] = new Trolleys();
            }
        }

        void copyFrom(Traffic other) {
            for (int i = 0; i < layout.riderCount; i++) {
                trips[i].copyFrom(other.trips[i]);
            }
            for (int i = 0; i < layout.lineCount; i++) {
                trolleys[i].copyFrom(other.trolleys[i]);
            }
            waitingCount = other.waitingCount;
            for (int i = 0; i < waitingCount; i++) {
                waiting[i] = other.waiting[i];
            }
            minute = other.minute;
        }

        void addTrolleys(int line, int more) {
            trolleys[line].atTop += more;
        }

        /** Has a rider be at a platform from now on, by a line or by coming there. */
        void reach(int rider, int platform) {
            if (platform == layout.riders[rider].goal) {
                trips[rider].arrive(platform, minute);
            } else if (waitingCount < MOST_RIDERS) {
                trips[rider].beginWait(platform);
                waiting[waitingCount] = rider;
                waitingCount++;
            }
        }

        /** Lets minutes go by, and returns how many riders arrived in them. */
        int goOn(int minutes) {
            int before = ridersIn(ARRIVED);
            for (int i = 0; i < minutes; i++) {
                passMinute();
            }
            return ridersIn(ARRIVED) - before;
        }

        void passMinute() {
            for (int i = 0; i < layout.lineCount; i++) {
                moveTrolleys(layout.lines[i], trolleys[i]);
            }
            for (int i = 0; i < layout.lineCount; i++) {
                if (!layout.isClosed(layout.lines[i], minute)) {
                    beginRide(layout.lines[i], i);
                }
            }
            tireWaiting();
            minute++;
        }

        private void moveTrolleys(Line line, Trolleys moved) {
            for (int i = 0; i < moved.away; i++) {
                moved.minutesLeft[i]--;
                int rider = moved.riders[i];
                if (rider != NONE) {
                    trips[rider].minutes = moved.minutesLeft[i];
                    if (moved.minutesLeft[i] <= 0) {
                        moved.beginPull(i, line.pullMinutes());
                        reach(rider, line.bottom);
                    }
                }
            }
            moved.dropPulled();
        }

        private void beginRide(Line line, int number) {
            int place = firstWaitingFor(number);
            if (place == NONE || !trolleys[number].canLeaveTop()) {
                return;
            }
            int rider = waiting[place];
            int weight = layout.riders[rider].weight;
            int minutes = line.rideMinutes(weight);
            leaveWaiting(place);
            trips[rider].beginRide(number, minutes);
            trolleys[number].leaveTop(rider, minutes);
            trolleys[number].stuck += line.getsStuck(weight) ? 1 : 0;
        }

        /** A place among those who wait, NONE if nobody's way begins with this line. */
        private int firstWaitingFor(int line) {
            for (int i = 0; i < waitingCount; i++) {
                int rider = waiting[i];
                if (layout.riders[rider].route.firstFrom(trips[rider].platform) == line) {
                    return i;
                }
            }
            return NONE;
        }

        private void leaveWaiting(int place) {
            for (int i = place; i + 1 < waitingCount; i++) {
                waiting[i] = waiting[i + 1];
            }
            waitingCount--;
        }

        /** Nobody's leaving depends on another's, so the order in which they are asked does not show. */
        private void tireWaiting() {
            int kept = 0;
            for (int i = 0; i < waitingCount; i++) {
                int rider = waiting[i];
                Trip trip = trips[rider];
                trip.minutes++;
                if (givesUp(layout.riders[rider], trip)) {
                    trip.giveUp();
                } else {
                    waiting[kept] = rider;
                    kept++;
                }
            }
            waitingCount = kept;
        }

        private static boolean givesUp(Rider rider, Trip trip) {
            return rider.route.linesFrom(trip.platform) == NONE || trip.minutes >= rider.patience;
        }

        int queueLength(int platform) {
            int length = 0;
            for (int i = 0; i < waitingCount; i++) {
                if (trips[waiting[i]].platform == platform) {
                    length++;
                }
            }
            return length;
        }

        /** The rider at a place of a platform's queue, NONE if nobody is there. */
        int inQueue(int platform, int index) {
            int passed = 0;
            for (int i = 0; i < waitingCount; i++) {
                if (trips[waiting[i]].platform == platform) {
                    if (passed == index) {
                        return waiting[i];
                    }
                    passed++;
                }
            }
            return NONE;
        }

        int arrivedAt(int platform) {
            int arrived = 0;
            for (int i = 0; i < layout.riderCount; i++) {
                if (trips[i].state == ARRIVED && trips[i].platform == platform) {
                    arrived++;
                }
            }
            return arrived;
        }

        int ridersIn(int state) {
            int found = 0;
            for (int i = 0; i < layout.riderCount; i++) {
                if (trips[i].state == state) {
                    found++;
                }
            }
            return found;
        }

        int trolleysInAll() {
            int all = 0;
            for (int i = 0; i < layout.lineCount; i++) {
                all += trolleys[i].inAll();
            }
            return all;
        }

        int ridesInAll() {
            int all = 0;
            for (int i = 0; i < layout.lineCount; i++) {
                all += trolleys[i].rides;
            }
            return all;
        }
    }

    /** How far a rider has come. */
    private static final class Trip {
        int state;
        /** Where one waits or has arrived, NONE otherwise. */
        int platform;
        /** On which one rides, NONE otherwise. */
        int line;
        /** Minutes that one has waited, or that the ride still takes. */
        int minutes;
        int taken;
        /** The minute of the arrival, NONE before it. */
        int arrival;

        Trip() {
            arrival = NONE;
        }

        void copyFrom(Trip other) {
            state = other.state;
            platform = other.platform;
            line = other.line;
            minutes = other.minutes;
            taken = other.taken;
            arrival = other.arrival;
        }

        boolean isUnderWay() {
            return state == WAITS || state == RIDES;
        }

        void beginWait(int where) {
            state = WAITS;
            platform = where;
            line = NONE;
            minutes = 0;
        }

        void beginRide(int on, int rideMinutes) {
            state = RIDES;
            platform = NONE;
            line = on;
            minutes = rideMinutes;
            taken++;
        }

        void arrive(int where, int minute) {
            state = ARRIVED;
            platform = where;
            line = NONE;
            minutes = 0;
            arrival = minute;
        }

        void giveUp() {
            state = GONE;
            platform = NONE;
            minutes = 0;
        }
    }

    /** The trolleys of a line: some at its top, the others kept in the order in which they left it. */
    private static final class Trolleys {
        int atTop;
        int away;
        /** Who rides, NONE on a trolley that is pulled up. */
        final int[] riders = new int[MOST_TROLLEYS];
        final int[] minutesLeft = new int[MOST_TROLLEYS];
        int rides;
        int stuck;

        void copyFrom(Trolleys other) {
            atTop = other.atTop;
            away = other.away;
            for (int i = 0; i < away; i++) {
                riders[i] = other.riders[i];
                minutesLeft[i] = other.minutesLeft[i];
            }
            rides = other.rides;
            stuck = other.stuck;
        }

        int inAll() {
            return atTop + away;
        }

        int ridden() {
            int found = 0;
            for (int i = 0; i < away; i++) {
                if (riders[i] != NONE) {
                    found++;
                }
            }
            return found;
        }

        boolean canLeaveTop() {
            return atTop > 0 && away < MOST_TROLLEYS;
        }

        void leaveTop(int rider, int minutes) {
            riders[away] = rider;
            minutesLeft[away] = minutes;
            away++;
            atTop--;
            rides++;
        }

        void beginPull(int place, int minutes) {
            riders[place] = NONE;
            minutesLeft[place] = minutes;
        }

        /** Those with no minute left are at the top again; the others close up. */
        void dropPulled() {
            int kept = 0;
            for (int i = 0; i < away; i++) {
                if (minutesLeft[i] > 0) {
                    riders[kept] = riders[i];
                    minutesLeft[kept] = minutesLeft[i];
                    kept++;
                }
            }
            atTop += away - kept;
            away = kept;
        }
    }
}
