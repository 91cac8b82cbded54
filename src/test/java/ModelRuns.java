import java.util.ArrayList;
import java.util.List;
import java.util.Random;

/** Runs of drawn calls, each answer compared with that of a slow and plain second program of the document. */
public final class ModelRuns {
    private static final int RUNS = 3000;
    private static final int CALLS = 512;
    private static final String[] NAMES = {
        "street", "slow", "way", "driver", "rest", "wander", "cap", "height", "request", "cancel", "rate",
        "airport", "best", "bestAnew", "match", "share", "requestIs", "driverIs", "stop", "pay", "pass"};
    // How often each call is drawn, by kinds of runs: of all calls, of shared rides, of ratings, of the airport.
    private static final int[][] WEIGHTS = {
        {3, 6, 4, 3, 3, 5, 1, 4, 14, 5, 5, 5, 4, 4, 9, 8, 10, 10, 10, 4, 14},
        {2, 4, 1, 2, 1, 2, 1, 1, 20, 2, 1, 2, 1, 1, 8, 20, 12, 8, 16, 2, 9},
        {1, 1, 1, 1, 3, 2, 1, 3, 14, 1, 22, 5, 1, 1, 14, 2, 4, 14, 2, 4, 16},
        {1, 2, 1, 2, 12, 12, 1, 2, 14, 2, 8, 16, 2, 2, 4, 2, 12, 8, 4, 1, 14}};

    public static void main(String[] args) {
        int wrong = 0;
        long[] answered = new long[NAMES.length];
        long[] thrown = new long[NAMES.length];
        for (int run = 0; run < RUNS && wrong < 5; run++) {
            if (!isRunRight(run, answered, thrown)) {
                wrong++;
            }
        }
        for (int i = 0; i < NAMES.length; i++) {
            boolean canThrow = !NAMES[i].equals("airport") && !NAMES[i].equals("share");
            if (answered[i] < 1000 || canThrow && thrown[i] < 20) {
                System.out.println(NAMES[i] + " was tried too seldom: " + answered[i] + ", " + thrown[i]);
                wrong++;
            }
        }
        System.out.println("ModelRuns: " + RUNS + " runs, " + wrong + " wrong");
        if (wrong > 0) {
            System.exit(1);
        }
    }

    private static boolean isRunRight(int run, long[] answered, long[] thrown) {
        Random random = new Random(20261119L + run);
        Drawn drawn = new Drawn(random, run);
        HailCity city = new HailCity();
        Model model = new Model();
        StringBuilder told = new StringBuilder();
        for (int call = 0; call < CALLS; call++) {
            int which = drawn.nextCall(call);
            int[] a = drawn.arguments(which, model);
            String got = answerOf(city, which, a);
            String want = answerOf(model, which, a);
            told.append(NAMES[which]).append(java.util.Arrays.toString(a)).append(" -> ").append(got).append('\n');
            if (!got.equals(want)) {
                System.out.print("run " + run + ":\n" + told);
                System.out.println("due is " + want);
                return false;
            }
            if (want.startsWith("throws")) {
                thrown[which]++;
            } else {
                answered[which]++;
            }
        }
        return true;
    }

    private static String answerOf(HailCity x, int which, int[] a) {
        try {
            switch (NAMES[which]) {
                case "street": return "" + x.street(a[0], a[1], a[2]);
                case "slow": return "" + x.slow(a[0], a[1]);
                case "way": return "" + x.way(a[0], a[1]);
                case "driver": return "" + x.driver(a[0]);
                case "rest": return "" + x.rest(a[0], a[1] == 1);
                case "wander": return "" + x.wander(a[0], a[1]);
                case "cap": return "" + x.cap(a[0]);
                case "height": return "" + x.height(a[0]);
                case "request": return "" + x.request(a[0], a[1], a[2], a[3] == 1);
                case "cancel": return "" + x.cancel(a[0]);
                case "rate": return "" + x.rate(a[0], a[1]);
                case "airport": return "" + x.airport();
                case "best": return "" + x.best();
                case "bestAnew": return "" + x.bestAnew();
                case "match": return "" + x.match();
                case "share": return "" + x.share();
                case "requestIs": return "" + x.requestIs(a[0], a[1]);
                case "driverIs": return "" + x.driverIs(a[0], a[1]);
                case "stop": return "" + x.stop(a[0], a[1], a[2] == 1);
                case "pay": return "" + x.pay(a[0]);
                default: return "" + x.pass(a[0]);
            }
        } catch (RuntimeException e) {
            return "throws." + e.getClass().getSimpleName();
        }
    }

    private static String answerOf(Model x, int which, int[] a) {
        try {
            switch (NAMES[which]) {
                case "street": return "" + x.street(a[0], a[1], a[2]);
                case "slow": return "" + x.slow(a[0], a[1]);
                case "way": return "" + x.way(a[0], a[1]);
                case "driver": return "" + x.driver(a[0]);
                case "rest": return "" + x.rest(a[0], a[1] == 1);
                case "wander": return "" + x.wander(a[0], a[1]);
                case "cap": return "" + x.cap(a[0]);
                case "height": return "" + x.height(a[0]);
                case "request": return "" + x.request(a[0], a[1], a[2], a[3] == 1);
                case "cancel": return "" + x.cancel(a[0]);
                case "rate": return "" + x.rate(a[0], a[1]);
                case "airport": return "" + x.airport();
                case "best": case "bestAnew": return "" + x.best();
                case "match": return "" + x.match();
                case "share": return "" + x.share();
                case "requestIs": return "" + x.requestIs(a[0], a[1]);
                case "driverIs": return "" + x.driverIs(a[0], a[1]);
                case "stop": return "" + x.stop(a[0], a[1], a[2] == 1);
                case "pay": return "" + x.pay(a[0]);
                default: return "" + x.pass(a[0]);
            }
        } catch (RuntimeException e) {
            return "throws." + e.getClass().getSimpleName();
        }
    }

    /** Draws calls that are mostly possible, and now and then are not. */
    private static final class Drawn {
        private final Random random;
        private final int[] weights;
        private final int setUp;
        private final int places;
        private final int drivers;
        private final int longest;

        Drawn(Random random, int run) {
            this.random = random;
            weights = WEIGHTS[run % WEIGHTS.length];
            setUp = 4 + random.nextInt(18);
            places = 3 + random.nextInt(8);
            drivers = 1 + random.nextInt(8);
            longest = random.nextInt(4) == 0 ? 20 : 1 + random.nextInt(6);
        }

        int nextCall(int call) {
            if (call < setUp) {
                return call < drivers ? 3 : 0;
            }
            int sum = 0;
            for (int weight : weights) {
                sum += weight;
            }
            int left = random.nextInt(sum);
            for (int i = 0; i < weights.length; i++) {
                left -= weights[i];
                if (left < 0) {
                    return i;
                }
            }
            return weights.length - 1;
        }

        private int of(int count) {
            return random.nextInt(40) == 0 ? random.nextInt(count + 4) - 2 : random.nextInt(Math.max(1, count));
        }

        private int between(int least, int most) {
            return random.nextInt(40) == 0
                    ? (random.nextBoolean() ? least - 1 : most + 1) : least + random.nextInt(most - least + 1);
        }

        private int place() {
            return random.nextInt(60) == 0 ? random.nextInt(14) - 2 : random.nextInt(places);
        }

        private int recent(int count) {
            return random.nextBoolean() ? of(count) : of(count) * 1 / 2 + count / 2;
        }

        private int inState(Model model, int state) {
            List<Integer> found = new ArrayList<>();
            for (int i = 0; i < model.requests.size(); i++) {
                if (model.requests.get(i).state == state && !model.requests.get(i).rated) {
                    found.add(i);
                }
            }
            return found.isEmpty() || random.nextInt(8) == 0
                    ? recent(model.requests.size()) : found.get(random.nextInt(found.size()));
        }

        int[] arguments(int which, Model model) {
            int requests = model.requests.size();
            int cars = model.drivers.size();
            switch (NAMES[which]) {
                case "street": return new int[] {place(), place(), between(1, longest)};
                case "slow": return new int[] {of(model.streets.size()), between(1, longest)};
                case "way": return new int[] {place(), place()};
                case "driver": return new int[] {place()};
                case "rest": return new int[] {of(cars), random.nextInt(3) == 0 ? 1 : 0};
                case "wander": return new int[] {of(cars), random.nextInt(3) == 0 ? 0 : place()};
                case "cap": return new int[] {between(100, 300)};
                case "height": return new int[] {between(0, 3)};
                case "request": return new int[] {random.nextInt(5) == 0 ? 0 : place(), place(),
                    random.nextInt(3) == 0 ? between(1, 60) : between(1, 12), random.nextInt(4) == 0 ? 0 : 1};
                case "cancel": return new int[] {inState(model, random.nextInt(2))};
                case "rate": return new int[] {inState(model, 3), random.nextInt(3) == 0 ? between(1, 5) : between(1, 4)};
                case "requestIs": return new int[] {recent(requests), between(0, 6)};
                case "driverIs": return new int[] {of(cars), between(0, 6)};
                case "stop": return new int[] {of(cars), between(0, 7), random.nextInt(2)};
                case "pay": return new int[] {of(cars)};
                case "pass": return new int[] {random.nextInt(12) == 0 ? between(1, 120) : between(1, 5)};
                default: return new int[] {};
            }
        }
    }

    private record Stop(int place, Ride ride, boolean out) { }

    private static final class Ride {
        int number, from, to, over, price, state, sent, promise = -1, outAt = -1;
        boolean shared, rated;
        Car car;
    }

    private static final class Car {
        int number, place, reach, counting, done;
        long money;
        boolean resting;
        List<Stop> row = new ArrayList<>();
        List<Integer> stars = new ArrayList<>();

        int rating() {
            List<Integer> latest = stars.subList(Math.max(0, stars.size() - 10), stars.size());
            return latest.isEmpty() ? 500
                    : latest.stream().mapToInt(Integer::intValue).sum() * 100 / latest.size();
        }

        boolean barred() {
            return stars.size() >= 5 && rating() < 350;
        }

        boolean free() {
            return row.isEmpty() && !resting && !barred();
        }
    }

    /** The document once more, with lists that are made anew, and without tables. */
    private static final class Model {
        final List<int[]> streets = new ArrayList<>();
        final List<Car> drivers = new ArrayList<>();
        final List<Ride> requests = new ArrayList<>();
        // All drivers who are FREE, by the order in which they became so.
        final List<Car> queue = new ArrayList<>();
        int now = 0;
        int most = 300;

        private void look(Car car) {
            if (!car.free()) {
                queue.remove(car);
            } else if (!queue.contains(car)) {
                queue.add(car);
            }
        }

        private static void inBounds(int value, int count) {
            if (value < 0 || value >= count) {
                throw new IndexOutOfBoundsException();
            }
        }

        private static void inRange(boolean is) {
            if (!is) {
                throw new IllegalArgumentException();
            }
        }

        private static void inState(boolean is) {
            if (!is) {
                throw new IllegalStateException();
            }
        }

        int street(int place, int other, int minutes) {
            inBounds(place, 10);
            inBounds(other, 10);
            inRange(place != other && minutes >= 1 && minutes <= 20);
            inState(streets.size() < 20);
            streets.add(new int[] {place, other, minutes});
            return streets.size() - 1;
        }

        int slow(int street, int minutes) {
            inBounds(street, streets.size());
            inRange(minutes >= 1 && minutes <= 20);
            int before = streets.get(street)[2];
            streets.get(street)[2] = minutes;
            return before;
        }

        int way(int from, int to) {
            inBounds(from, 10);
            inBounds(to, 10);
            int[] to9 = new int[10];
            java.util.Arrays.fill(to9, -1);
            to9[from] = 0;
            for (boolean more = true; more;) {
                more = false;
                for (int[] s : streets) {
                    more |= nearer(to9, s[0], s[1], s[2]) | nearer(to9, s[1], s[0], s[2]);
                }
            }
            return to9[to];
        }

        private static boolean nearer(int[] far, int a, int b, int minutes) {
            if (far[a] >= 0 && (far[b] < 0 || far[a] + minutes < far[b])) {
                far[b] = far[a] + minutes;
                return true;
            }
            return false;
        }

        int driver(int place) {
            inBounds(place, 10);
            inState(drivers.size() < 8);
            Car car = new Car();
            car.number = drivers.size();
            car.place = place;
            drivers.add(car);
            look(car);
            return car.number;
        }

        boolean rest(int driver, boolean is) {
            inBounds(driver, drivers.size());
            Car car = drivers.get(driver);
            inState(car.row.isEmpty());
            boolean before = car.resting;
            car.resting = is;
            look(car);
            return before;
        }

        int wander(int driver, int place) {
            inBounds(driver, drivers.size());
            inBounds(place, 10);
            Car car = drivers.get(driver);
            inState(car.free() && way(car.place, place) > 0);
            car.row.add(new Stop(place, null, false));
            car.reach = now + way(car.place, place);
            look(car);
            return car.reach;
        }

        int cap(int cap) {
            inRange(cap >= 100 && cap <= 300);
            int before = most;
            most = cap;
            return before;
        }

        int height(int zone) {
            inBounds(zone, 4);
            long up = requests.stream().filter(r -> r.state == 0 && r.from / 3 == zone).count();
            long down = drivers.stream().filter(c -> c.free() && c.place / 3 == zone).count();
            return (int) Math.min(most, Math.max(100, 100 + 25 * (up - down)));
        }

        int request(int from, int to, int patience, boolean shared) {
            inBounds(from, 10);
            inBounds(to, 10);
            inRange(from != to && patience >= 1 && patience <= 60);
            inState(requests.size() < 60 && way(from, to) >= 0);
            Ride ride = new Ride();
            ride.number = requests.size();
            ride.from = from;
            ride.to = to;
            ride.over = now + patience;
            ride.shared = shared;
            ride.price = (300 + 40 * way(from, to)) * height(from / 3) / 100;
            requests.add(ride);
            return ride.number;
        }

        int cancel(int request) {
            inBounds(request, requests.size());
            Ride ride = requests.get(request);
            inState(ride.state == 0 || ride.state == 1);
            int due = ride.state == 1 && now - ride.sent > 2 ? 500 : 0;
            if (ride.state == 1) {
                List<Stop> row = new ArrayList<>();
                for (Stop stop : ride.car.row) {
                    if (stop.ride != ride) {
                        row.add(stop);
                    } else if (!stop.out) {
                        row.add(new Stop(stop.place, null, false));
                    }
                }
                ride.car.row = row;
            }
            ride.state = 4;
            return due;
        }

        int rate(int request, int stars) {
            inBounds(request, requests.size());
            inRange(stars >= 1 && stars <= 5);
            Ride ride = requests.get(request);
            inState(ride.state == 3 && !ride.rated);
            ride.rated = true;
            ride.car.stars.add(stars);
            look(ride.car);
            return ride.car.rating();
        }

        private void send(Car car, Ride ride) {
            car.reach = now + way(car.place, ride.from);
            tell(car, ride, car.reach);
            car.row.add(new Stop(ride.from, ride, false));
            car.row.add(new Stop(ride.to, ride, true));
            look(car);
            reached(car);
        }

        private void tell(Car car, Ride ride, int inAt) {
            ride.state = 1;
            ride.car = car;
            ride.sent = now;
            ride.promise = promise(ride, inAt);
        }

        private int promise(Ride ride, int inAt) {
            return inAt + way(ride.from, ride.to) * 150 / 100;
        }

        private void reached(Car car) {
            while (!car.row.isEmpty() && car.reach == now) {
                Stop stop = car.row.remove(0);
                car.place = stop.place;
                if (stop.ride != null) {
                    stop.ride.state = stop.out ? 3 : 2;
                }
                if (stop.out) {
                    stop.ride.outAt = now;
                    car.done++;
                    car.money += stop.ride.price;
                }
                if (!car.row.isEmpty()) {
                    car.reach = now + way(car.place, car.row.get(0).place);
                }
            }
            look(car);
        }

        int airport() {
            int given = 0;
            for (Ride ride : requests) {
                if (ride.state != 0 || ride.from != 0) {
                    continue;
                }
                for (Car car : new ArrayList<>(queue)) {
                    if (car.place == 0 && ride.state == 0) {
                        send(car, ride);
                        given++;
                    }
                }
            }
            return given;
        }

        private List<Ride> others() {
            List<Ride> all = new ArrayList<>();
            for (Ride ride : requests) {
                if (ride.state == 0 && ride.from != 0) {
                    all.add(ride);
                }
            }
            inState(all.size() <= 5);
            return all;
        }

        private int bestWorth;
        private Car[] bestCars;

        private void tryAll(List<Ride> rides, int[][] minutes, Car[] cars, int at, int worth) {
            if (at == rides.size()) {
                if (worth > bestWorth) {
                    bestWorth = worth;
                    bestCars = cars.clone();
                }
                return;
            }
            for (Car car : drivers) {
                if (minutes[at][car.number] >= 0 && !java.util.Arrays.asList(cars).contains(car)) {
                    cars[at] = car;
                    tryAll(rides, minutes, cars, at + 1, worth + 10000 - minutes[at][car.number]);
                    cars[at] = null;
                }
            }
            tryAll(rides, minutes, cars, at + 1, worth);
        }

        int best() {
            List<Ride> rides = others();
            bestWorth = -1;
            int[][] minutes = new int[rides.size()][drivers.size()];
            for (int i = 0; i < rides.size(); i++) {
                for (Car car : drivers) {
                    int way = way(car.place, rides.get(i).from);
                    minutes[i][car.number] = car.free() && now + way <= rides.get(i).over ? way : -1;
                }
            }
            tryAll(rides, minutes, new Car[rides.size()], 0, 0);
            return bestWorth;
        }

        int match() {
            List<Ride> rides = others();
            best();
            Car[] cars = bestCars;
            int given = 0;
            for (int i = 0; i < cars.length; i++) {
                if (cars[i] != null) {
                    send(cars[i], rides.get(i));
                    given++;
                }
            }
            return given;
        }

        /** The minutes of the stops of a row whose next one is reached as it is known. */
        private int[] minutes(Car car, List<Stop> row) {
            int[] at = new int[row.size()];
            at[0] = car.reach;
            for (int i = 1; i < at.length; i++) {
                int way = way(row.get(i - 1).place, row.get(i).place);
                if (way < 0) {
                    return null;
                }
                at[i] = at[i - 1] + way;
            }
            return at;
        }

        private boolean takesMore(Car car) {
            List<Ride> riders = new ArrayList<>();
            for (Stop stop : car.row) {
                if (stop.ride == null || !stop.ride.shared) {
                    return false;
                }
                if (!riders.contains(stop.ride)) {
                    riders.add(stop.ride);
                }
            }
            return !car.barred() && riders.size() >= 1 && riders.size() <= 3;
        }

        private boolean keeps(Ride ride, List<Stop> row, int[] at) {
            int promise = 0;
            for (int i = 0; i < at.length; i++) {
                Stop stop = row.get(i);
                if (stop.ride == ride && !stop.out) {
                    promise = promise(ride, at[i]);
                    if (at[i] > ride.over) {
                        return false;
                    }
                }
                if (stop.out && at[i] > (stop.ride == ride ? promise : stop.ride.promise)) {
                    return false;
                }
            }
            return true;
        }

        int share() {
            int put = 0;
            for (Ride ride : requests) {
                if (ride.state == 0 && ride.shared && putIn(ride)) {
                    put++;
                }
            }
            return put;
        }

        private boolean putIn(Ride ride) {
            Car bestCar = null;
            List<Stop> bestRow = null;
            int least = 0;
            for (Car car : drivers) {
                if (!takesMore(car)) {
                    continue;
                }
                int[] before = minutes(car, car.row);
                for (int in = 1; in <= car.row.size(); in++) {
                    for (int out = in + 1; out <= car.row.size() + 1; out++) {
                        List<Stop> row = new ArrayList<>(car.row);
                        row.add(in, new Stop(ride.from, ride, false));
                        row.add(out, new Stop(ride.to, ride, true));
                        int[] at = minutes(car, row);
                        if (at == null || !keeps(ride, row, at)) {
                            continue;
                        }
                        int more = at[at.length - 1] - before[before.length - 1];
                        if (bestCar == null || more < least) {
                            bestCar = car;
                            bestRow = row;
                            least = more;
                        }
                    }
                }
            }
            if (bestCar == null) {
                return false;
            }
            int[] at = minutes(bestCar, bestRow);
            bestCar.row = bestRow;
            for (int i = 0; i < at.length; i++) {
                if (bestRow.get(i).ride == ride && !bestRow.get(i).out) {
                    tell(bestCar, ride, at[i]);
                }
            }
            return true;
        }

        int requestIs(int request, int what) {
            inBounds(request, requests.size());
            inRange(what >= 0 && what <= 6);
            Ride r = requests.get(request);
            int[] all = {r.state, r.price, r.car == null ? -1 : r.car.number, r.promise, r.outAt,
                r.state == 3 && r.outAt > r.promise ? 1 : 0, r.over};
            return all[what];
        }

        int driverIs(int driver, int what) {
            inBounds(driver, drivers.size());
            inRange(what >= 0 && what <= 6);
            Car c = drivers.get(driver);
            int[] all = {c.place, c.row.size(), c.row.isEmpty() ? -1 : c.reach, c.free() ? 1 : 0, c.rating(),
                c.counting, c.done};
            return all[what];
        }

        int stop(int driver, int stop, boolean whom) {
            inBounds(driver, drivers.size());
            inBounds(stop, Integer.MAX_VALUE);
            List<Stop> row = drivers.get(driver).row;
            if (stop >= row.size()) {
                return -1;
            }
            Stop s = row.get(stop);
            return !whom ? s.place : s.ride == null ? -1 : s.ride.number + (s.out ? 100 : 0);
        }

        long pay(int driver) {
            inBounds(driver, drivers.size());
            Car car = drivers.get(driver);
            return Math.max(car.money * 3 / 4, 30L * car.counting);
        }

        int pass(int minutes) {
            inRange(minutes >= 1 && minutes <= 120);
            inState(now + minutes <= 20000);
            for (int i = 0; i < minutes; i++) {
                for (Car car : drivers) {
                    car.counting += car.row.stream().anyMatch(s -> s.ride != null) ? 1 : 0;
                }
                now++;
                for (Car car : drivers) {
                    reached(car);
                }
                for (Ride ride : requests) {
                    ride.state = ride.state == 0 && ride.over == now ? 4 : ride.state;
                }
            }
            return now;
        }
    }
}
