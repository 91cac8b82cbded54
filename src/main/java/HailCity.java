/** Rides for a whole city without a table; what it does is promised in the document of HailCity. */
public final class HailCity {
    public static final int NONE = -1;
    public static final int WAITS = 0, SENT = 1, ABOARD = 2, DONE = 3, GONE = 4;

    private static final int AIRPORT = 0;
    private static final int ZONES = 4;
    private static final int PLACES_IN_ZONE = 3;
    private static final int MOST_DRIVERS = 8;
    private static final int MOST_REQUESTS = 60;
    private static final int MOST_TO_MATCH = 5;
    private static final int LONGEST_PATIENCE = 60;
    private static final int LOWEST_HEIGHT = 100;
    private static final int HIGHEST_CAP = 300;
    private static final int HEIGHT_STEP = 25;
    private static final int MOST_STARS = 5;
    private static final int MOST_TO_PASS = 120;
    private static final int LAST_MINUTE = 20000;

    private final CityMap map;
    private final Driver[] drivers;
    private final Request[] requests;
    private final Matching matching;
    private final Sharing sharing;
    private int driverCount;
    private int requestCount;
    private int heightCap;
    private int now;
    private int timesFree;

    public HailCity() {
        map = new CityMap();
        drivers = new Driver[MOST_DRIVERS];
        requests = new Request[MOST_REQUESTS];
        matching = new Matching();
        sharing = new Sharing(map);
        heightCap = HIGHEST_CAP;
    }

    // ---- streets

    public int street(int place, int other, int minutes)
            throws IndexOutOfBoundsException, IllegalArgumentException, IllegalStateException {
        checkPlace(place);
        checkPlace(other);
        if (place == other) {
            throw new IllegalArgumentException("both places are the same");
        }
        checkRange(minutes, 1, CityMap.LONGEST_STREET);
        if (map.streetCount >= CityMap.MOST_STREETS) {
            throw new IllegalStateException("there are 20 streets");
        }
        return map.addStreet(place, other, minutes);
    }

    public int slow(int street, int minutes) throws IndexOutOfBoundsException, IllegalArgumentException {
        if (street < 0 || street >= map.streetCount) {
            throw new IndexOutOfBoundsException("no such street");
        }
        checkRange(minutes, 1, CityMap.LONGEST_STREET);
        return map.changeStreet(street, minutes);
    }

    public int way(int from, int to) throws IndexOutOfBoundsException {
        checkPlace(from);
        checkPlace(to);
        return map.minutesBetween(from, to);
    }

    // ---- drivers

    public int driver(int place) throws IndexOutOfBoundsException, IllegalStateException {
        checkPlace(place);
        if (driverCount >= MOST_DRIVERS) {
            throw new IllegalStateException("there are 8 drivers");
        }
        Driver told = new Driver(driverCount, place);
        drivers[driverCount] = told;
        driverCount++;
        queueIfNowFree(told, false);
        return told.number;
    }

    public boolean rest(int driver, boolean is) throws IndexOutOfBoundsException, IllegalStateException {
        Driver known = knownDriver(driver);
        if (known.row.size > 0) {
            throw new IllegalStateException("the driver has stops");
        }
        boolean wasResting = known.isResting;
        boolean wasFree = known.isFree();
        known.isResting = is;
        queueIfNowFree(known, wasFree);
        return wasResting;
    }

    public int wander(int driver, int place) throws IndexOutOfBoundsException, IllegalStateException {
        Driver known = knownDriver(driver);
        checkPlace(place);
        int minutes = map.minutesBetween(known.place, place);
        if (!known.isFree() || minutes == NONE || known.place == place) {
            throw new IllegalStateException("the driver can't be sent there");
        }
        known.row.put(0, place, null, false);
        known.nextAt = now + minutes;
        return known.nextAt;
    }

    // ---- requests

    public int cap(int cap) throws IllegalArgumentException {
        checkRange(cap, LOWEST_HEIGHT, HIGHEST_CAP);
        int before = heightCap;
        heightCap = cap;
        return before;
    }

    public int height(int zone) throws IndexOutOfBoundsException {
        if (zone < 0 || zone >= ZONES) {
            throw new IndexOutOfBoundsException("no such zone");
        }
        return heightOf(zone);
    }

    public int request(int from, int to, int patience, boolean isShared)
            throws IndexOutOfBoundsException, IllegalArgumentException, IllegalStateException {
        checkPlace(from);
        checkPlace(to);
        if (from == to) {
            throw new IllegalArgumentException("both places are the same");
        }
        checkRange(patience, 1, LONGEST_PATIENCE);
        int minutes = map.minutesBetween(from, to);
        if (requestCount >= MOST_REQUESTS || minutes == NONE) {
            throw new IllegalStateException("there are 60 requests, or there is no way");
        }
        // The height is taken before the request stands in the row of requests, where it would raise it.
        int price = (300 + 40 * minutes) * heightOf(zoneOf(from)) / 100;
        Request told = new Request(requestCount, from, to, isShared);
        told.patienceOver = now + patience;
        told.price = price;
        requests[requestCount] = told;
        requestCount++;
        return told.number;
    }

    public int cancel(int request) throws IndexOutOfBoundsException, IllegalStateException {
        Request known = knownRequest(request);
        if (known.state != WAITS && known.state != SENT) {
            throw new IllegalStateException("the request neither WAITS nor is SENT");
        }
        boolean wasSent = known.state == SENT;
        known.state = GONE;
        if (wasSent && known.driver != null) {
            known.driver.row.dropRider(known);
        }
        return wasSent && now - known.sentAt > 2 ? 500 : 0;
    }

    public int rate(int request, int stars)
            throws IndexOutOfBoundsException, IllegalArgumentException, IllegalStateException {
        Request known = knownRequest(request);
        checkRange(stars, 1, MOST_STARS);
        Driver rated = known.driver;
        if (known.state != DONE || known.isRated || rated == null) {
            throw new IllegalStateException("the request is not DONE, or was rated");
        }
        boolean wasFree = rated.isFree();
        known.isRated = true;
        rated.addStars(stars);
        queueIfNowFree(rated, wasFree);
        return rated.rating;
    }

    // ---- matches

    public int airport() {
        int given = 0;
        for (int i = 0; i < requestCount; i++) {
            Request waiting = requests[i];
            if (waiting.state == WAITS && waiting.from == AIRPORT) {
                Driver first = firstInQueue();
                if (first == null) {
                    return given;
                }
                send(first, waiting);
                given++;
            }
        }
        return given;
    }

    public int best() throws IllegalStateException {
        prepareMatching();
        return matching.mostByRequests();
    }

    public int bestAnew() throws IllegalStateException {
        prepareMatching();
        return matching.mostByDrivers();
    }

    public int match() throws IllegalStateException {
        prepareMatching();
        matching.mostByRequests();
        int taken = 0;
        int given = 0;
        for (int row = 0; row < matching.count; row++) {
            int number = matching.chosenDriver(row, taken);
            if (number != NONE) {
                taken |= 1 << number;
                given++;
                send(drivers[number], matching.requests[row]);
            }
        }
        return given;
    }

    public int share() {
        int put = 0;
        for (int i = 0; i < requestCount; i++) {
            Request waiting = requests[i];
            if (waiting.state == WAITS && waiting.isShared && putIntoRow(waiting)) {
                put++;
            }
        }
        return put;
    }

    // ---- asking

    public int requestIs(int request, int what) throws IndexOutOfBoundsException, IllegalArgumentException {
        Request known = knownRequest(request);
        checkRange(what, 0, 6);
        switch (what) {
            case 0: return known.state;
            case 1: return known.price;
            case 2: return known.driver == null ? NONE : known.driver.number;
            case 3: return known.promise;
            case 4: return known.letOutAt;
            case 5: return known.isPromiseBroken() ? 1 : 0;
            default: return known.patienceOver;
        }
    }

    public int driverIs(int driver, int what) throws IndexOutOfBoundsException, IllegalArgumentException {
        Driver known = knownDriver(driver);
        checkRange(what, 0, 6);
        switch (what) {
            case 0: return known.place;
            case 1: return known.row.size;
            case 2: return known.row.size == 0 ? NONE : known.nextAt;
            case 3: return known.isFree() ? 1 : 0;
            case 4: return known.rating;
            case 5: return known.minutesThatCount;
            default: return known.doneCount;
        }
    }

    public int stop(int driver, int stop, boolean isWhom) throws IndexOutOfBoundsException {
        Driver known = knownDriver(driver);
        if (stop < 0) {
            throw new IndexOutOfBoundsException("no such stop");
        }
        if (!isWhom) {
            return known.row.placeAt(stop);
        }
        Request rider = known.row.riderAt(stop);
        if (rider == null) {
            return NONE;
        }
        return known.row.isLetOutAt(stop) ? rider.number + 100 : rider.number;
    }

    public int pay(int driver) throws IndexOutOfBoundsException {
        Driver known = knownDriver(driver);
        return Math.max(known.donePrices * 75 / 100, known.minutesThatCount * 30);
    }

    public int pass(int minutes) throws IllegalArgumentException, IllegalStateException {
        checkRange(minutes, 1, MOST_TO_PASS);
        if (now + minutes > LAST_MINUTE) {
            throw new IllegalStateException("it would be above 20000");
        }
        for (int i = 0; i < minutes; i++) {
            passOneMinute();
        }
        return now;
    }

    // ---- what is tested ahead of a call

    private static void checkPlace(int place) {
        if (!CityMap.isPlace(place)) {
            throw new IndexOutOfBoundsException("no such place");
        }
    }

    private static void checkRange(int value, int least, int most) {
        if (value < least || value > most) {
            throw new IllegalArgumentException("out of range");
        }
    }

    private Driver knownDriver(int number) {
        Driver known = number < 0 || number >= driverCount ? null : drivers[number];
        if (known == null) {
            throw new IndexOutOfBoundsException("no such driver");
        }
        return known;
    }

    private Request knownRequest(int number) {
        Request known = number < 0 || number >= requestCount ? null : requests[number];
        if (known == null) {
            throw new IndexOutOfBoundsException("no such request");
        }
        return known;
    }

    // ---- what is done within a call

    private static int zoneOf(int place) {
        return place / PLACES_IN_ZONE;
    }

    private int heightOf(int zone) {
        int height = LOWEST_HEIGHT;
        for (int i = 0; i < requestCount; i++) {
            if (requests[i].state == WAITS && zoneOf(requests[i].from) == zone) {
                height += HEIGHT_STEP;
            }
        }
        for (int i = 0; i < driverCount; i++) {
            if (drivers[i].isFree() && zoneOf(drivers[i].place) == zone) {
                height -= HEIGHT_STEP;
            }
        }
        return Math.min(Math.max(height, LOWEST_HEIGHT), heightCap);
    }

    /** The airport's queue goes by the order in which drivers became FREE; who stays FREE keeps the place in it. */
    private void queueIfNowFree(Driver driver, boolean wasFree) {
        if (!wasFree && driver.isFree()) {
            driver.freeSince = timesFree;
            timesFree++;
        }
    }

    private Driver firstInQueue() {
        Driver first = null;
        for (int i = 0; i < driverCount; i++) {
            Driver driver = drivers[i];
            if (driver.isFree() && driver.place == AIRPORT
                    && (first == null || driver.freeSince < first.freeSince)) {
                first = driver;
            }
        }
        return first;
    }

    /** Fills the table of minutes from which best, bestAnew and match work. */
    private void prepareMatching() {
        matching.clear(driverCount);
        for (int i = 0; i < requestCount; i++) {
            Request waiting = requests[i];
            if (waiting.state == WAITS && waiting.from != AIRPORT) {
                if (matching.count >= MOST_TO_MATCH) {
                    throw new IllegalStateException("more than 5 WAIT");
                }
                matching.addRequest(waiting);
                fillMinutes(waiting);
            }
        }
    }

    private void fillMinutes(Request waiting) {
        int left = waiting.patienceOver - now;
        for (int i = 0; i < driverCount; i++) {
            int minutes = map.minutesBetween(drivers[i].place, waiting.from);
            boolean canBeThere = drivers[i].isFree() && minutes != NONE && minutes <= left;
            matching.setMinutes(i, canBeThere ? minutes : NONE);
        }
    }

    /** Sends a FREE driver to let in the rider of a request, and to let the rider out. */
    private void send(Driver driver, Request request) {
        int letInAt = now + map.minutesBetween(driver.place, request.from);
        tellSent(request, driver, letInAt);
        driver.row.put(0, request.from, request, false);
        driver.row.put(1, request.to, request, true);
        driver.nextAt = letInAt;
        doReachedStops(driver);
    }

    private void tellSent(Request request, Driver driver, int letInAt) {
        request.state = SENT;
        request.driver = driver;
        request.sentAt = now;
        request.promise = map.promiseOf(request, letInAt);
    }

    private boolean putIntoRow(Request waiting) {
        sharing.begin(waiting);
        for (int i = 0; i < driverCount; i++) {
            if (!drivers[i].isBarred && drivers[i].row.canTakeOneMore()) {
                sharing.tryDriver(drivers[i]);
            }
        }
        Driver driver = sharing.driver;
        if (driver == null) {
            return false;
        }
        driver.row.put(sharing.in, waiting.from, waiting, false);
        driver.row.put(sharing.out, waiting.to, waiting, true);
        tellSent(waiting, driver, sharing.letInAt);
        return true;
    }

    private void passOneMinute() {
        for (int i = 0; i < driverCount; i++) {
            if (drivers[i].row.riderCount() > 0) {
                drivers[i].minutesThatCount++;
            }
        }
        now++;
        for (int i = 0; i < driverCount; i++) {
            doReachedStops(drivers[i]);
        }
        for (int i = 0; i < requestCount; i++) {
            if (requests[i].state == WAITS && requests[i].patienceOver <= now) {
                requests[i].state = GONE;
            }
        }
    }

    private void doReachedStops(Driver driver) {
        int most = driver.row.size;
        for (int i = 0; i < most && driver.row.size > 0 && driver.nextAt <= now; i++) {
            doNextStop(driver);
        }
    }

    private void doNextStop(Driver driver) {
        Row row = driver.row;
        Request rider = row.riderAt(0);
        if (rider != null && row.isLetOutAt(0)) {
            rider.state = DONE;
            rider.letOutAt = now;
            driver.doneCount++;
            driver.donePrices += rider.price;
        } else if (rider != null) {
            rider.state = ABOARD;
        }
        driver.place = row.placeAt(0);
        row.take(0);
        if (row.size > 0) {
            driver.nextAt = now + map.minutesBetween(driver.place, row.placeAt(0));
        } else {
            queueIfNowFree(driver, false);
        }
    }

    /** The streets, and the minutes between all places by now. */
    private static final class CityMap {
        static final int PLACES = 10;
        static final int MOST_STREETS = 20;
        static final int LONGEST_STREET = 20;
        // Above every sum of streets, so that no way looks longer than every way.
        private static final int NO_WAY = 1000000;

        private final int[] ends;
        private final int[] otherEnds;
        private final int[] streetMinutes;
        private final int[][] between;
        private int streetCount;

        CityMap() {
            ends = new int[MOST_STREETS];
            otherEnds = new int[MOST_STREETS];
            streetMinutes = new int[MOST_STREETS];
            between = new int[PLACES][PLACES];
            measure();
        }

        static boolean isPlace(int place) {
            return place >= 0 && place < PLACES;
        }

        int addStreet(int place, int other, int minutes) {
            int number = streetCount;
            ends[number] = place;
            otherEnds[number] = other;
            streetMinutes[number] = minutes;
            streetCount++;
            measure();
            return number;
        }

        int changeStreet(int street, int minutes) {
            int before = streetMinutes[street];
            streetMinutes[street] = minutes;
            measure();
            return before;
        }

        int minutesBetween(int from, int to) {
            if (!isPlace(from) || !isPlace(to) || between[from][to] >= NO_WAY) {
                return NONE;
            }
            return between[from][to];
        }

        int promiseOf(Request request, int letInAt) {
            return letInAt + minutesBetween(request.from, request.to) * 3 / 2;
        }

        private void measure() {
            for (int from = 0; from < PLACES; from++) {
                for (int to = 0; to < PLACES; to++) {
                    between[from][to] = from == to ? 0 : NO_WAY;
                }
            }
            for (int i = 0; i < streetCount; i++) {
                int minutes = Math.min(streetMinutes[i], between[ends[i]][otherEnds[i]]);
                between[ends[i]][otherEnds[i]] = minutes;
                between[otherEnds[i]][ends[i]] = minutes;
            }
            for (int over = 0; over < PLACES; over++) {
                goOver(over);
            }
        }

        private void goOver(int over) {
            for (int from = 0; from < PLACES; from++) {
                for (int to = 0; to < PLACES; to++) {
                    between[from][to] = Math.min(between[from][to], between[from][over] + between[over][to]);
                }
            }
        }
    }

    /** What is told and known of one request. */
    private static final class Request {
        private final int number;
        private final int from;
        private final int to;
        private final boolean isShared;
        private int patienceOver;
        private int price;
        private int state;
        private Driver driver;
        private int sentAt;
        private int promise;
        private int letOutAt;
        private boolean isRated;

        Request(int number, int from, int to, boolean isShared) {
            this.number = number;
            this.from = from;
            this.to = to;
            this.isShared = isShared;
            state = WAITS;
            promise = NONE;
            letOutAt = NONE;
        }

        boolean isPromiseBroken() {
            return letOutAt != NONE && letOutAt > promise;
        }
    }

    /** The stops of one driver, the next one at place 0; a stop for nobody has no rider. */
    private static final class Row {
        private static final int MOST_RIDERS_TO_TAKE_ONE = 3;
        // Four riders, each to be let in and to be let out.
        private static final int MOST_STOPS = 8;

        private final int[] places;
        private final Request[] riders;
        private final boolean[] letOuts;
        private int size;

        Row() {
            places = new int[MOST_STOPS];
            riders = new Request[MOST_STOPS];
            letOuts = new boolean[MOST_STOPS];
        }

        private boolean holds(int at) {
            return at >= 0 && at < size;
        }

        int placeAt(int at) {
            return holds(at) ? places[at] : NONE;
        }

        Request riderAt(int at) {
            return holds(at) ? riders[at] : null;
        }

        boolean isLetOutAt(int at) {
            return holds(at) && letOuts[at];
        }

        void put(int at, int place, Request rider, boolean isLetOut) {
            if (at < 0 || at > size || size >= MOST_STOPS) {
                return;
            }
            for (int i = size; i > at; i--) {
                copyStop(i - 1, i);
            }
            places[at] = place;
            riders[at] = rider;
            letOuts[at] = isLetOut;
            size++;
        }

        void take(int at) {
            if (!holds(at)) {
                return;
            }
            for (int i = at + 1; i < size; i++) {
                copyStop(i, i - 1);
            }
            size--;
        }

        private void copyStop(int from, int to) {
            places[to] = places[from];
            riders[to] = riders[from];
            letOuts[to] = letOuts[from];
        }

        void copyFrom(Row other) {
            size = 0;
            for (int i = 0; i < other.size; i++) {
                put(i, other.places[i], other.riders[i], other.letOuts[i]);
            }
        }

        /** The stop to let the rider in stays, for nobody; that to let the rider out goes. */
        void dropRider(Request rider) {
            for (int i = size - 1; i >= 0; i--) {
                if (riders[i] == rider && letOuts[i]) {
                    take(i);
                } else if (riders[i] == rider) {
                    riders[i] = null;
                }
            }
        }

        /** Each rider of a row, let in or not, has one stop to be let out. */
        int riderCount() {
            int count = 0;
            for (int i = 0; i < size; i++) {
                if (letOuts[i]) {
                    count++;
                }
            }
            return count;
        }

        boolean canTakeOneMore() {
            for (int i = 0; i < size; i++) {
                if (riders[i] == null || !riders[i].isShared) {
                    return false;
                }
            }
            int count = riderCount();
            return count >= 1 && count <= MOST_RIDERS_TO_TAKE_ONE;
        }
    }

    /** What is told and known of one driver. */
    private static final class Driver {
        private static final int LATEST = 10;
        private static final int WITHOUT_STARS = 500;
        private static final int FEWEST_TO_BAR = 5;
        private static final int BARRED_BELOW = 350;

        private final int number;
        private final Row row;
        private final int[] latestStars;
        private int starCount;
        private int rating;
        private boolean isBarred;
        private int place;
        private boolean isResting;
        private int freeSince;
        private int nextAt;
        private int minutesThatCount;
        private int doneCount;
        private int donePrices;

        Driver(int number, int place) {
            this.number = number;
            this.place = place;
            row = new Row();
            latestStars = new int[LATEST];
            rating = WITHOUT_STARS;
        }

        boolean isFree() {
            return row.size == 0 && !isResting && !isBarred;
        }

        void addStars(int stars) {
            latestStars[starCount % LATEST] = stars;
            starCount++;
            int count = Math.min(starCount, LATEST);
            int sum = 0;
            for (int i = 0; i < count; i++) {
                sum += latestStars[i];
            }
            rating = sum * 100 / count;
            isBarred = starCount >= FEWEST_TO_BAR && rating < BARRED_BELOW;
        }
    }

    /** Requests that WAIT, and how many minutes off the drivers are who can be there in time. */
    private static final class Matching {
        private static final int FOR_ONE_GIVEN = 10000;

        private final Request[] requests;
        private final int[][] minutes;
        // mostFrom[row][taken]: what the requests from row on come to, the drivers in taken left out.
        private final int[][] mostFrom;
        // mostOf[given]: what the requests in given come to, all of them with the drivers looked at, or NONE.
        private final int[] mostOf;
        private int driverCount;
        private int count;

        Matching() {
            requests = new Request[MOST_TO_MATCH];
            minutes = new int[MOST_TO_MATCH][MOST_DRIVERS];
            mostFrom = new int[MOST_TO_MATCH + 1][1 << MOST_DRIVERS];
            mostOf = new int[1 << MOST_TO_MATCH];
        }

        void clear(int drivers) {
            driverCount = drivers;
            count = 0;
        }

        void addRequest(Request waiting) {
            requests[count] = waiting;
            count++;
        }

        /** Tells the minutes of a driver to the request added last; NONE if it can't be given to this one. */
        void setMinutes(int driver, int value) {
            minutes[count - 1][driver] = value;
        }

        int mostByRequests() {
            int sets = 1 << driverCount;
            for (int taken = 0; taken < sets; taken++) {
                mostFrom[count][taken] = 0;
            }
            for (int row = count - 1; row >= 0; row--) {
                for (int taken = 0; taken < sets; taken++) {
                    mostFrom[row][taken] = mostWith(row, taken);
                }
            }
            return mostFrom[0][0];
        }

        private int mostWith(int row, int taken) {
            int most = mostFrom[row + 1][taken];
            for (int driver = 0; driver < driverCount; driver++) {
                if (canGive(row, driver, taken)) {
                    most = Math.max(most, mostGiving(row, driver, taken));
                }
            }
            return most;
        }

        private boolean canGive(int row, int driver, int taken) {
            return (taken & (1 << driver)) == 0 && minutes[row][driver] != NONE;
        }

        private int mostGiving(int row, int driver, int taken) {
            return FOR_ONE_GIVEN - minutes[row][driver] + mostFrom[row + 1][taken | (1 << driver)];
        }

        /** The lowest driver with whom the request still comes to the most, the lower requests having theirs. */
        int chosenDriver(int row, int taken) {
            for (int driver = 0; driver < driverCount; driver++) {
                if (canGive(row, driver, taken) && mostGiving(row, driver, taken) == mostFrom[row][taken]) {
                    return driver;
                }
            }
            return NONE;
        }

        int mostByDrivers() {
            int sets = 1 << count;
            for (int given = 0; given < sets; given++) {
                mostOf[given] = given == 0 ? 0 : NONE;
            }
            for (int driver = 0; driver < driverCount; driver++) {
                // From the larger sets down, so that no set is looked at that has this driver already.
                for (int given = sets - 1; given > 0; given--) {
                    mostOf[given] = mostOfWith(given, driver);
                }
            }
            int most = 0;
            for (int given = 0; given < sets; given++) {
                most = Math.max(most, mostOf[given]);
            }
            return most;
        }

        private int mostOfWith(int given, int driver) {
            int most = mostOf[given];
            for (int row = 0; row < count; row++) {
                int others = given & ~(1 << row);
                if (others != given && mostOf[others] != NONE && minutes[row][driver] != NONE) {
                    most = Math.max(most, mostOf[others] + FOR_ONE_GIVEN - minutes[row][driver]);
                }
            }
            return most;
        }
    }

    /** The way found so far by which one more rider delays the last stop of a row the least. */
    private static final class Sharing {
        // Above every minute that a stop can have.
        private static final int ANY_MINUTE = 1000000;

        private final CityMap map;
        // The row that is tried: that of a driver, with both stops of the rider put in.
        private final Row longer;
        private Request waiting;
        private Driver driver;
        private int in;
        private int out;
        private int letInAt;
        private int leastMore;
        private int triedLetInAt;

        Sharing(CityMap map) {
            this.map = map;
            longer = new Row();
        }

        void begin(Request request) {
            waiting = request;
            driver = null;
        }

        /** Tries all places of both stops, behind the next one; the earlier found stays if none is less. */
        void tryDriver(Driver tried) {
            int lastNow = lastAsItIs(tried);
            for (int inAt = 1; inAt <= tried.row.size; inAt++) {
                for (int outAt = inAt + 1; outAt <= tried.row.size + 1; outAt++) {
                    int last = lastWith(tried, inAt, outAt);
                    if (last != NONE && (driver == null || last - lastNow < leastMore)) {
                        driver = tried;
                        in = inAt;
                        out = outAt;
                        letInAt = triedLetInAt;
                        leastMore = last - lastNow;
                    }
                }
            }
        }

        private int lastAsItIs(Driver tried) {
            int minute = tried.nextAt;
            for (int i = 1; i < tried.row.size; i++) {
                minute += map.minutesBetween(tried.row.placeAt(i - 1), tried.row.placeAt(i));
            }
            return minute;
        }

        /** The minute of the last stop with the rider put in, or NONE if there is no way, or a promise would break. */
        private int lastWith(Driver tried, int inAt, int outAt) {
            longer.copyFrom(tried.row);
            longer.put(inAt, waiting.from, waiting, false);
            longer.put(outAt, waiting.to, waiting, true);
            int minute = tried.nextAt;
            for (int i = 0; i < longer.size; i++) {
                int minutes = i == 0 ? 0 : map.minutesBetween(longer.placeAt(i - 1), longer.placeAt(i));
                if (minutes == NONE) {
                    return NONE;
                }
                minute += minutes;
                if (i == inAt) {
                    triedLetInAt = minute;
                }
                if (minute > latestAt(i)) {
                    return NONE;
                }
            }
            return minute;
        }

        /** The minute by which a stop of the longer row has to be reached. */
        private int latestAt(int at) {
            Request rider = longer.riderAt(at);
            if (rider == null) {
                return ANY_MINUTE;
            }
            if (longer.isLetOutAt(at)) {
                return rider == waiting ? map.promiseOf(waiting, triedLetInAt) : rider.promise;
            }
            return rider == waiting ? waiting.patienceOver : ANY_MINUTE;
        }
    }
}
