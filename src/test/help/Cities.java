import java.util.ArrayList;
import java.util.List;
import java.util.function.IntSupplier;

/** Cities to begin a test with, and all that can be asked of one. */
final class Cities {
    private Cities() { }

    interface Call {
        int on(HailCity x);
    }

    /** A call that is refused, and by which exception. */
    record Refused(String what, Call call, int want) { }

    /** 9 streets, 6 drivers and 8 requests: FREE, on a break, with stops; each state, rated or not. */
    static HailCity busy() {
        HailCity x = Check.line(2);
        for (int place : new int[] {1, 1, 0, 0, 7, 9}) {
            x.driver(place);
        }
        x.request(1, 2, 60, false);
        x.request(1, 2, 60, false);
        x.match();
        x.pass(2);
        x.rate(0, 4);
        x.request(2, 9, 60, true);
        x.match();
        x.request(9, 8, 60, true);
        x.share();
        x.rest(5, true);
        x.request(5, 6, 30, false);
        x.match();
        x.request(6, 5, 1, false);
        x.pass(1);
        x.request(0, 4, 60, true);
        x.request(3, 4, 5, false);
        x.wander(1, 5);
        x.cap(250);
        return x;
    }

    /** 20 streets, 8 drivers and 60 requests that WAIT: 88 calls. */
    static HailCity full() {
        HailCity x = Check.line(1);
        for (int i = 0; i < 11; i++) {
            x.street(0, 9, 20);
        }
        for (int i = 0; i < 8; i++) {
            x.driver(1);
        }
        for (int i = 0; i < 60; i++) {
            x.request(1 + i % 8, 9, 60, true);
        }
        return x;
    }

    /** Minute 20000, and one driver, at place 1. */
    static HailCity atTheLastMinute() {
        HailCity x = Check.line(1);
        x.driver(1);
        for (int i = 0; i < 166; i++) {
            x.pass(120);
        }
        x.pass(80);
        return x;
    }

    /** One driver between the places 1 and 2, a minute apart. */
    static HailCity shuttle() {
        HailCity x = new HailCity();
        x.street(1, 2, 1);
        x.driver(1);
        return x;
    }

    /** Lets driver 0 of a shuttle do so many rides, each of one minute. */
    static void rides(HailCity x, int count) {
        for (int i = 0; i < count; i++) {
            int place = x.driverIs(0, 0);
            x.request(place, 3 - place, 60, false);
            x.match();
            x.pass(1);
        }
    }

    /** Rates the requests from the first on; answers the rating then. */
    static int rate(HailCity x, int first, int... stars) {
        int rating = -1;
        for (int i = 0; i < stars.length; i++) {
            rating = x.rate(first + i, stars[i]);
        }
        return rating;
    }

    static List<Refused> refusedOnBusy() {
        List<Refused> all = new ArrayList<>();
        for (int bad : new int[] {Integer.MIN_VALUE, -1, 10, Integer.MAX_VALUE}) {
            add(all, "street from " + bad, x -> x.street(bad, 3, 1), Check.BOUNDS);
            add(all, "street to " + bad, x -> x.street(3, bad, 1), Check.BOUNDS);
            add(all, "slow street " + bad, x -> x.slow(bad, 1), Check.BOUNDS);
            add(all, "way from " + bad, x -> x.way(bad, 3), Check.BOUNDS);
            add(all, "way to " + bad, x -> x.way(3, bad), Check.BOUNDS);
            add(all, "driver at " + bad, x -> x.driver(bad), Check.BOUNDS);
            add(all, "rest of " + bad, x -> Check.bit(x.rest(bad, true)), Check.BOUNDS);
            add(all, "wander of " + bad, x -> x.wander(bad, 3), Check.BOUNDS);
            add(all, "wander to " + bad, x -> x.wander(2, bad), Check.BOUNDS);
            add(all, "cap " + bad, x -> x.cap(bad), Check.ARGUMENT);
            add(all, "height of " + bad, x -> x.height(bad), Check.BOUNDS);
            add(all, "request from " + bad, x -> x.request(bad, 3, 5, true), Check.BOUNDS);
            add(all, "request to " + bad, x -> x.request(3, bad, 5, true), Check.BOUNDS);
            add(all, "cancel " + bad, x -> x.cancel(bad), Check.BOUNDS);
            add(all, "rate " + bad, x -> x.rate(bad, 1), Check.BOUNDS);
            add(all, "rate by " + bad, x -> x.rate(1, bad), Check.ARGUMENT);
            add(all, "requestIs of " + bad, x -> x.requestIs(bad, 0), Check.BOUNDS);
            add(all, "requestIs what " + bad, x -> x.requestIs(0, bad), Check.ARGUMENT);
            add(all, "driverIs of " + bad, x -> x.driverIs(bad, 0), Check.BOUNDS);
            add(all, "driverIs what " + bad, x -> x.driverIs(0, bad), Check.ARGUMENT);
            add(all, "stop of " + bad, x -> x.stop(bad, 0, true), Check.BOUNDS);
            add(all, "pay of " + bad, x -> x.pay(bad), Check.BOUNDS);
        }
        for (int bad : new int[] {Integer.MIN_VALUE, -1, 0, 61, 121, Integer.MAX_VALUE}) {
            add(all, "street of " + bad, x -> x.street(3, 4, bad), Check.ARGUMENT);
            add(all, "slow to " + bad, x -> x.slow(3, bad), Check.ARGUMENT);
            add(all, "request of patience " + bad, x -> x.request(3, 4, bad, true), Check.ARGUMENT);
        }
        for (int bad : new int[] {Integer.MIN_VALUE, -1, 0, 121, Integer.MAX_VALUE}) {
            add(all, "pass " + bad, x -> x.pass(bad), Check.ARGUMENT);
        }
        addWrongStates(all);
        return all;
    }

    private static void addWrongStates(List<Refused> all) {
        add(all, "street of one place", x -> x.street(4, 4, 1), Check.ARGUMENT);
        add(all, "request of one place", x -> x.request(4, 4, 5, true), Check.ARGUMENT);
        add(all, "a stop below 0", x -> x.stop(0, -1, false), Check.BOUNDS);
        for (int busy : new int[] {0, 1, 4}) {
            add(all, "rest with stops", x -> Check.bit(x.rest(busy, true)), Check.STATE);
            add(all, "no rest with stops", x -> Check.bit(x.rest(busy, false)), Check.STATE);
            add(all, "wander with stops", x -> x.wander(busy, 3), Check.STATE);
        }
        add(all, "wander on a break", x -> x.wander(5, 3), Check.STATE);
        add(all, "wander where the driver is", x -> x.wander(2, 0), Check.STATE);
        for (int ended : new int[] {0, 1, 2, 5}) {
            add(all, "cancel ABOARD, DONE or GONE", x -> x.cancel(ended), Check.STATE);
        }
        for (int open : new int[] {0, 2, 3, 4, 5, 6, 7}) {
            add(all, "rate what is not DONE, or was rated", x -> x.rate(open, 1), Check.STATE);
        }
    }

    static List<Refused> refusedOnFull() {
        List<Refused> all = new ArrayList<>();
        add(all, "a 21st street", x -> x.street(0, 1, 1), Check.STATE);
        add(all, "a ninth driver", x -> x.driver(0), Check.STATE);
        add(all, "a 61st request", x -> x.request(0, 1, 5, true), Check.STATE);
        add(all, "best of more than 5", x -> x.best(), Check.STATE);
        add(all, "bestAnew of more than 5", x -> x.bestAnew(), Check.STATE);
        add(all, "match of more than 5", x -> x.match(), Check.STATE);
        return all;
    }

    private static void add(List<Refused> all, String what, Call call, int want) {
        all.add(new Refused(what, call, want));
    }

    /** All that can be asked of a city without a change of it. */
    static String picture(HailCity x) {
        StringBuilder told = new StringBuilder();
        for (int place = 0; place < 10; place++) {
            for (int other = 0; other < 10; other++) {
                told.append(x.way(place, other)).append(' ');
            }
        }
        for (int zone = 0; zone < 4; zone++) {
            told.append(x.height(zone)).append(' ');
        }
        for (int i = 0; i < 60; i++) {
            int request = i;
            for (int what = 0; what < 7; what++) {
                int asked = what;
                tell(told, () -> x.requestIs(request, asked));
            }
        }
        for (int i = 0; i < 8; i++) {
            int driver = i;
            for (int what = 0; what < 7; what++) {
                int asked = what;
                tell(told, () -> x.driverIs(driver, asked));
            }
            for (int what = 0; what < 18; what++) {
                int asked = what;
                tell(told, () -> x.stop(driver, asked / 2, asked % 2 == 0));
            }
            tell(told, () -> x.pay(driver));
        }
        tell(told, () -> x.best());
        tell(told, () -> x.bestAnew());
        return told.toString();
    }

    /** What calls that change the city answer, for what can't be asked: the minute, the cap, streets, the queue. */
    static String sequel(HailCity x) {
        StringBuilder told = new StringBuilder();
        tell(told, () -> x.cap(300));
        for (int i = 0; i < 20; i++) {
            int street = i;
            tell(told, () -> x.slow(street, 2 + street % 3));
        }
        tell(told, () -> x.airport());
        tell(told, () -> x.share());
        tell(told, () -> x.match());
        tell(told, () -> x.pass(2));
        told.append(picture(x));
        tell(told, () -> x.street(9, 0, 20));
        tell(told, () -> x.driver(0));
        tell(told, () -> x.request(0, 3, 9, true));
        tell(told, () -> x.request(0, 4, 9, true));
        for (int i = 0; i < 8; i++) {
            int number = i;
            tell(told, () -> x.rate(number, 2));
            tell(told, () -> Check.bit(x.rest(number, false)));
        }
        tell(told, () -> x.airport());
        tell(told, () -> x.match());
        tell(told, () -> x.pass(30));
        told.append(picture(x));
        tell(told, () -> x.cancel(7));
        tell(told, () -> x.pass(120));
        return told.append(picture(x)).toString();
    }

    private static void tell(StringBuilder told, IntSupplier call) {
        told.append(Check.answerOf(call)).append(' ');
    }
}
