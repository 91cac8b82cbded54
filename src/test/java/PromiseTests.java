/** Tests of each promise of the document: ordinary inputs, the edges that it names, and wrong inputs. */
public final class PromiseTests extends Check {
    public static void main(String[] args) {
        newObject();
        streets();
        slow();
        way();
        driver();
        rest();
        wander();
        cap();
        height();
        request();
        cancel();
        rate();
        barred();
        airport();
        airportQueue();
        airportBarred();
        best();
        match();
        matchTies();
        share();
        sharePromises();
        shareTies();
        requestIs();
        driverIs();
        stop();
        pay();
        pass();
        finish("PromiseTests");
    }

    private static void newObject() {
        about("1 a new object");
        due("NONE", HailCity.NONE, -1);
        due("WAITS", HailCity.WAITS, 0);
        due("SENT", HailCity.SENT, 1);
        due("ABOARD", HailCity.ABOARD, 2);
        due("DONE", HailCity.DONE, 3);
        due("GONE", HailCity.GONE, 4);
        HailCity x = new HailCity();
        dueThrow("a street", () -> x.slow(0, 1), BOUNDS);
        dueThrow("a driver", () -> x.driverIs(0, 0), BOUNDS);
        dueThrow("a request", () -> x.requestIs(0, 0), BOUNDS);
        due("a way", x.way(0, 1), -1);
        due("best", x.best(), 0);
        due("bestAnew", x.bestAnew(), 0);
        due("match", x.match(), 0);
        due("airport", x.airport(), 0);
        due("share", x.share(), 0);
        due("height", x.height(0), 100);
        due("cap", x.cap(300), 300);
        due("the minute", x.pass(1), 1);
    }

    private static void streets() {
        about("2 street");
        HailCity x = new HailCity();
        for (int i = 0; i < 20; i++) {
            if (i == 7) {
                dueThrow("place -1", () -> x.street(-1, 3, 5), BOUNDS);
                dueThrow("place 10", () -> x.street(10, 3, 5), BOUNDS);
                dueThrow("other -1", () -> x.street(3, -1, 5), BOUNDS);
                dueThrow("other 10, and minutes", () -> x.street(3, 10, 0), BOUNDS);
                dueThrow("the same", () -> x.street(4, 4, 5), ARGUMENT);
                dueThrow("no such place, and the same", () -> x.street(10, 10, 5), BOUNDS);
                dueThrow("0 minutes", () -> x.street(4, 5, 0), ARGUMENT);
                dueThrow("21 minutes", () -> x.street(4, 5, 21), ARGUMENT);
            }
            due("its number", x.street(i % 9, i % 9 + 1, i + 1), i);
        }
        dueThrow("a 21st street", () -> x.street(0, 9, 1), STATE);
        dueThrow("a 21st street of 21 minutes", () -> x.street(0, 9, 21), ARGUMENT);
        due("the shorter of two streets", x.way(0, 1), 1);
        due("the 20th street", x.way(1, 2), 2);
        due("gone the other way", x.way(2, 0), 3);
    }

    private static void slow() {
        about("3 slow");
        HailCity x = new HailCity();
        x.street(1, 2, 5);
        x.street(2, 3, 5);
        x.street(1, 3, 12);
        due("before", x.slow(1, 20), 5);
        due("the way then", x.way(1, 3), 12);
        due("before, again", x.slow(1, 1), 20);
        due("the way again", x.way(3, 1), 6);
        dueThrow("street -1", () -> x.slow(-1, 5), BOUNDS);
        dueThrow("street 3, and minutes", () -> x.slow(3, 0), BOUNDS);
        dueThrow("0 minutes", () -> x.slow(0, 0), ARGUMENT);
        dueThrow("21 minutes", () -> x.slow(0, 21), ARGUMENT);
        due("unchanged", x.slow(0, 5), 5);
        // A driver under way keeps the minute of the next stop; the one behind it goes by the minutes then.
        x.driver(1);
        x.request(2, 3, 60, false);
        x.match();
        x.slow(0, 20);
        due("the next stop", x.driverIs(0, 2), 5);
        x.slow(1, 7);
        x.pass(5);
        due("the stop behind it", x.driverIs(0, 2), 12);
        due("the promise as it was told", x.requestIs(0, 3), 6);
        x.pass(7);
        due("let out", x.requestIs(0, 4), 12);
        due("broken", x.requestIs(0, 5), 1);
    }

    private static void way() {
        about("4 way");
        HailCity x = line(3);
        due("itself", x.way(4, 4), 0);
        due("all along", x.way(0, 9), 27);
        x.street(0, 9, 20);
        due("a shorter one", x.way(9, 0), 20);
        due("round about", x.way(1, 9), 23);
        due("itself without a street", new HailCity().way(9, 9), 0);
        due("no way", new HailCity().way(9, 8), -1);
        dueThrow("from -1", () -> x.way(-1, 0), BOUNDS);
        dueThrow("from 10", () -> x.way(10, 0), BOUNDS);
        dueThrow("to -1", () -> x.way(0, -1), BOUNDS);
        dueThrow("to 10", () -> x.way(0, 10), BOUNDS);
    }

    private static void driver() {
        about("5 driver");
        HailCity x = new HailCity();
        for (int i = 0; i < 8; i++) {
            due("its number", x.driver(9 - i), i);
            due("its place", x.driverIs(i, 0), 9 - i);
            due("FREE", x.driverIs(i, 3), 1);
        }
        dueThrow("a ninth", () -> x.driver(0), STATE);
        dueThrow("place -1", () -> x.driver(-1), BOUNDS);
        dueThrow("place 10", () -> x.driver(10), BOUNDS);
    }

    private static void rest() {
        about("6 rest");
        HailCity x = line(2);
        x.driver(1);
        due("no break to end", bit(x.rest(0, false)), 0);
        due("begin", bit(x.rest(0, true)), 0);
        due("not FREE", x.driverIs(0, 3), 0);
        due("begin again", bit(x.rest(0, true)), 1);
        x.request(1, 2, 10, false);
        due("nobody for it", x.match(), 0);
        due("end", bit(x.rest(0, false)), 1);
        due("FREE", x.driverIs(0, 3), 1);
        due("given", x.match(), 1);
        dueThrow("with stops", () -> bit(x.rest(0, true)), STATE);
        dueThrow("with stops, to end", () -> bit(x.rest(0, false)), STATE);
        dueThrow("driver -1", () -> bit(x.rest(-1, true)), BOUNDS);
        dueThrow("driver 1", () -> bit(x.rest(1, true)), BOUNDS);
        x.pass(2);
        due("a break behind the stops", bit(x.rest(0, true)), 0);
    }

    private static void wander() {
        about("7 wander");
        HailCity x = line(2);
        x.driver(1);
        x.pass(3);
        due("the minute", x.wander(0, 4), 9);
        row("wandering", x, 0, 4, -1);
        due("not FREE", x.driverIs(0, 3), 0);
        due("still at the place", x.driverIs(0, 0), 1);
        dueThrow("wandering again", () -> x.wander(0, 5), STATE);
        x.pass(5);
        due("not there yet", x.driverIs(0, 0), 1);
        x.pass(1);
        due("there", x.driverIs(0, 0), 4);
        due("FREE there", x.driverIs(0, 3), 1);
        due("no minute counts", x.driverIs(0, 5), 0);
        dueThrow("where the driver is", () -> x.wander(0, 4), STATE);
        dueThrow("driver 1", () -> x.wander(1, 4), BOUNDS);
        dueThrow("driver -1", () -> x.wander(-1, 4), BOUNDS);
        dueThrow("place 10", () -> x.wander(0, 10), BOUNDS);
        dueThrow("place -1", () -> x.wander(0, -1), BOUNDS);
        x.rest(0, true);
        dueThrow("on a break", () -> x.wander(0, 5), STATE);
        HailCity y = new HailCity();
        y.driver(1);
        dueThrow("no way", () -> y.wander(0, 2), STATE);
        due("nothing changed", y.driverIs(0, 1), 0);
    }

    private static void cap() {
        about("8 cap");
        HailCity x = line(1);
        for (int i = 0; i < 12; i++) {
            x.request(3, 4, 60, false);
        }
        due("at most 300 at first", x.height(1), 300);
        due("at first", x.cap(150), 300);
        due("capped", x.height(1), 150);
        due("before", x.cap(100), 150);
        due("the lowest cap", x.height(1), 100);
        dueThrow("99", () -> x.cap(99), ARGUMENT);
        dueThrow("301", () -> x.cap(301), ARGUMENT);
        due("unchanged", x.cap(300), 100);
        due("at most 300", x.height(1), 300);
    }

    private static void height() {
        about("9 height");
        HailCity x = line(1);
        due("empty", x.height(3), 100);
        x.request(9, 1, 3, false);
        due("one that WAITS", x.height(3), 125);
        x.request(8, 9, 60, false);
        due("another zone", x.height(2), 125);
        x.request(6, 9, 60, false);
        x.request(7, 9, 60, false);
        due("all places of a zone", x.height(2), 175);
        x.driver(7);
        due("less 25 for one that is FREE", x.height(2), 150);
        x.rest(0, true);
        due("not for one on a break", x.height(2), 175);
        x.rest(0, false);
        x.wander(0, 0);
        due("not for one under way", x.height(2), 175);
        x.pass(3);
        due("not for one that is GONE", x.height(3), 100);
        x.pass(4);
        due("FREE elsewhere", x.height(0), 100);
        x.cancel(1);
        due("not for one that was cancelled", x.height(2), 150);
        x.match();
        due("not for one that is SENT", x.height(2), 125);
        dueThrow("zone -1", () -> x.height(-1), BOUNDS);
        dueThrow("zone 4", () -> x.height(4), BOUNDS);
    }

    private static void request() {
        about("10 request");
        HailCity x = line(3);
        due("its number", x.request(3, 6, 60, false), 0);
        due("its price", x.requestIs(0, 1), 660);
        due("the next number", x.request(4, 3, 1, true), 1);
        due("the height ahead of it", x.requestIs(1, 1), 420 * 125 / 100);
        x.request(5, 6, 60, false);
        due("the height again", x.requestIs(2, 1), 420 * 150 / 100);
        x.slow(3, 8);
        x.cap(100);
        due("the price stays", x.requestIs(1, 1), 525);
        due("the state", x.requestIs(1, 0), HailCity.WAITS);
        dueThrow("from -1", () -> x.request(-1, 6, 5, false), BOUNDS);
        dueThrow("from 10", () -> x.request(10, 6, 5, false), BOUNDS);
        dueThrow("to -1", () -> x.request(6, -1, 5, false), BOUNDS);
        dueThrow("to 10, and patience", () -> x.request(6, 10, 0, false), BOUNDS);
        dueThrow("the same", () -> x.request(6, 6, 5, false), ARGUMENT);
        dueThrow("patience 0", () -> x.request(6, 7, 0, false), ARGUMENT);
        dueThrow("patience 61", () -> x.request(6, 7, 61, false), ARGUMENT);
        for (int i = 3; i < 60; i++) {
            due("its number", x.request(6, 7, 60, false), i);
        }
        dueThrow("a 61st", () -> x.request(6, 7, 60, false), STATE);
        dueThrow("a 61st of patience 61", () -> x.request(6, 7, 61, false), ARGUMENT);
        HailCity y = new HailCity();
        y.street(1, 2, 7);
        dueThrow("no way", () -> y.request(2, 3, 5, false), STATE);
        due("nothing changed", y.request(2, 1, 5, false), 0);
        due("a price of 7 minutes", y.requestIs(0, 1), 580);
        // 25 more for each, of a price that is no whole number of cents: rounded down.
        y.street(3, 4, 1);
        for (int i = 0; i < 4; i++) {
            y.request(3, 4, 60, false);
        }
        due("175 hundredths of 340", y.requestIs(4, 1), 595);
    }

    private static void cancel() {
        about("11 cancel");
        HailCity x = line(5);
        x.driver(1);
        x.request(3, 5, 60, true);
        due("one that WAITS", x.cancel(0), 0);
        due("GONE", x.requestIs(0, 0), HailCity.GONE);
        due("no driver", x.requestIs(0, 2), -1);
        due("no promise", x.requestIs(0, 3), -1);
        dueThrow("GONE", () -> x.cancel(0), STATE);
        x.request(3, 5, 60, true);
        x.match();
        x.pass(2);
        due("2 minutes ago", x.cancel(1), 0);
        row("for nobody then", x, 0, 3, -1);
        due("the minute stays", x.driverIs(0, 2), 10);
        due("its driver", x.requestIs(1, 2), 0);
        due("its promise", x.requestIs(1, 3), 25);
        due("two minutes count", x.driverIs(0, 5), 2);
        x.request(3, 4, 60, true);
        due("no sharing with one for nobody", x.share(), 0);
        x.pass(8);
        due("no more minutes count", x.driverIs(0, 5), 2);
        due("FREE there", x.driverIs(0, 3), 1);
        due("there", x.driverIs(0, 0), 3);
        due("matched, let in at once", x.match(), 1);
        dueThrow("ABOARD", () -> x.cancel(2), STATE);
        x.request(4, 3, 60, true);
        x.share();
        row("shared", x, 0, 4, 102, 4, 3, 3, 103);
        x.pass(3);
        due("3 minutes ago", x.cancel(3), 500);
        row("the stop to let in is for nobody", x, 0, 4, 102, 4, -1);
        x.pass(2);
        due("both stops done at one minute", x.driverIs(0, 1), 0);
        dueThrow("DONE", () -> x.cancel(2), STATE);
        x.pass(5);
        x.request(9, 8, 60, false);
        x.match();
        x.pass(2);
        due("2 minutes ago, later on", x.cancel(4), 0);
        x.pass(60);
        x.request(5, 4, 60, false);
        x.match();
        x.pass(3);
        due("3 minutes ago, later on", x.cancel(5), 500);
        dueThrow("request -1", () -> x.cancel(-1), BOUNDS);
        dueThrow("request 6", () -> x.cancel(6), BOUNDS);
    }

    /** Lets driver 0 do a ride of one minute, at whichever of the places 1 and 2 the driver is. */
    private static int ride(HailCity x) {
        int place = x.driverIs(0, 0);
        int number = x.request(place, 3 - place, 60, false);
        x.match();
        x.pass(1);
        return number;
    }

    private static HailCity twoPlaces() {
        HailCity x = new HailCity();
        x.street(1, 2, 1);
        x.driver(1);
        return x;
    }

    private static void rate() {
        about("12 rate");
        HailCity x = twoPlaces();
        due("without any", x.driverIs(0, 4), 500);
        int first = ride(x);
        dueThrow("request -1", () -> x.rate(-1, 3), BOUNDS);
        dueThrow("request 1, and stars", () -> x.rate(1, 0), BOUNDS);
        dueThrow("stars 0", () -> x.rate(first, 0), ARGUMENT);
        dueThrow("stars 6", () -> x.rate(first, 6), ARGUMENT);
        due("one", x.rate(first, 2), 200);
        dueThrow("again", () -> x.rate(first, 2), STATE);
        dueThrow("again, of 6 stars", () -> x.rate(first, 6), ARGUMENT);
        int waiting = x.request(1, 2, 60, false);
        dueThrow("WAITS", () -> x.rate(waiting, 5), STATE);
        x.cancel(waiting);
        dueThrow("GONE", () -> x.rate(waiting, 5), STATE);
        due("two", x.rate(ride(x), 5), 350);
        due("three, rounded down", x.rate(ride(x), 4), 366);
        for (int i = 3; i < 10; i++) {
            due("more", x.rate(ride(x), 5), (11 + 5 * (i - 2)) * 100 / (i + 1));
        }
        due("the earliest of 11 left out", x.rate(ride(x), 5), 490);
        due("the one behind it left out", x.rate(ride(x), 5), 490);
        due("the third left out", x.rate(ride(x), 1), 460);
        due("driverIs tells it", x.driverIs(0, 4), 460);
        int aboard = x.request(x.driverIs(0, 0), 3 - x.driverIs(0, 0), 60, false);
        x.match();
        dueThrow("ABOARD", () -> x.rate(aboard, 5), STATE);
    }

    private static void barred() {
        about("12 rate, barred");
        HailCity x = twoPlaces();
        int[] rides = new int[6];
        for (int i = 0; i < 6; i++) {
            rides[i] = ride(x);
        }
        x.rate(rides[0], 1);
        x.rate(rides[1], 1);
        x.rate(rides[2], 1);
        due("four do not bar", x.rate(rides[3], 1), 100);
        due("FREE", x.driverIs(0, 3), 1);
        x.request(x.driverIs(0, 0), 3 - x.driverIs(0, 0), 60, true);
        x.match();
        due("five", x.rate(rides[4], 1), 100);
        x.request(2, 1, 60, true);
        due("barred, no sharing", x.share(), 0);
        x.pass(1);
        due("the ride is done all the same", x.requestIs(6, 0), HailCity.DONE);
        due("not FREE", x.driverIs(0, 3), 0);
        due("not given", x.match(), 0);
        dueThrow("no wandering", () -> x.wander(0, 1), STATE);
        due("may rest", bit(x.rest(0, true)), 0);
        due("may end it", bit(x.rest(0, false)), 1);
        due("barred still", x.driverIs(0, 3), 0);
        HailCity y = twoPlaces();
        int[] stars = {5, 4, 4, 3, 1};
        for (int i = 0; i < 5; i++) {
            y.rate(ride(y), stars[i]);
        }
        due("340", y.driverIs(0, 4), 340);
        due("barred by 340", y.driverIs(0, 3), 0);
        HailCity z = twoPlaces();
        for (int i = 0; i < 6; i++) {
            rides[i] = ride(z);
        }
        for (int i = 0; i < 5; i++) {
            z.rate(rides[i], i < 2 ? 4 : 3);
        }
        due("340 by others", z.driverIs(0, 4), 340);
        due("barred", z.driverIs(0, 3), 0);
        due("350 is not below", z.rate(rides[5], 4), 350);
        due("not barred", z.driverIs(0, 3), 1);
    }

    private static void airport() {
        about("13 airport");
        HailCity x = line(4);
        x.driver(0);
        x.driver(1);
        x.request(1, 2, 60, false);
        due("no request there", x.airport(), 0);
        x.request(0, 2, 60, false);
        x.request(0, 3, 60, false);
        due("one driver there", x.airport(), 1);
        due("by numbers", x.requestIs(1, 0), HailCity.ABOARD);
        due("its driver", x.requestIs(1, 2), 0);
        due("its promise", x.requestIs(1, 3), 12);
        due("the other WAITS", x.requestIs(2, 0), HailCity.WAITS);
        row("let in at once", x, 0, 2, 101);
        due("nobody else there", x.airport(), 0);
    }

    private static void airportQueue() {
        about("13 airport, the queue");
        HailCity x = line(1);
        x.driver(1);
        x.driver(0);
        x.driver(0);
        x.wander(0, 0);
        x.pass(1);
        x.request(0, 1, 60, false);
        x.request(0, 2, 60, false);
        x.request(0, 3, 60, false);
        due("three given", x.airport(), 3);
        due("the first in the queue", x.requestIs(0, 2), 1);
        due("the second in the queue", x.requestIs(1, 2), 2);
        due("the one who came last", x.requestIs(2, 2), 0);
        HailCity y = line(1);
        y.driver(0);
        y.driver(0);
        y.driver(0);
        y.rest(0, true);
        y.rest(0, false);
        y.rest(1, false);
        y.request(0, 1, 60, false);
        y.airport();
        due("no break ended, the place stays", y.requestIs(0, 2), 1);
        y.request(0, 1, 60, false);
        y.airport();
        due("who was on a break comes later", y.requestIs(1, 2), 2);
        y.request(0, 1, 60, false);
        y.airport();
        due("the last", y.requestIs(2, 2), 0);
        y.pass(1);
        y.wander(2, 0);
        y.wander(1, 0);
        y.pass(1);
        y.request(0, 1, 60, false);
        y.airport();
        due("at one minute by drivers", y.requestIs(3, 2), 1);
    }

    private static void airportBarred() {
        about("13 airport, who was barred");
        HailCity x = line(1);
        x.driver(0);
        for (int i = 0; i < 6; i++) {
            x.request(i % 2, 1 - i % 2, 60, false);
            due("the ride is given", i % 2 == 0 ? x.airport() : x.match(), 1);
            x.pass(1);
        }
        x.driver(0);
        for (int i = 0; i < 5; i++) {
            x.rate(i, i < 2 ? 4 : 3);
        }
        x.request(0, 1, 60, false);
        x.request(0, 1, 60, false);
        due("who is barred is not given", x.airport(), 1);
        due("but the other", x.requestIs(6, 2), 1);
        x.driver(0);
        x.rest(2, true);
        due("barred no more", x.rate(5, 4), 350);
        x.rest(2, false);
        x.driver(0);
        x.request(0, 1, 60, false);
        x.request(0, 1, 60, false);
        due("all given", x.airport(), 3);
        due("FREE again ahead of others", x.requestIs(7, 2), 0);
        due("FREE behind a break", x.requestIs(8, 2), 2);
        HailCity y = line(1);
        y.driver(0);
        for (int i = 0; i < 6; i++) {
            y.request(i % 2, 1 - i % 2, 60, false);
            y.airport();
            y.match();
            y.pass(1);
        }
        for (int i = 0; i < 5; i++) {
            y.rate(i, i < 2 ? 4 : 3);
        }
        y.driver(0);
        y.rate(5, 4);
        y.request(0, 1, 60, false);
        y.airport();
        due("who was FREE all the time goes ahead", y.requestIs(6, 2), 1);
    }

    private static void best() {
        about("14 best, 15 bestAnew");
        HailCity x = line(2);
        due("none", x.best(), 0);
        due("none anew", x.bestAnew(), 0);
        x.request(2, 3, 10, false);
        x.request(0, 3, 10, false);
        due("no driver", x.best() + x.bestAnew(), 0);
        x.driver(7);
        due("just there in time", x.best(), 9990);
        due("just there in time, anew", x.bestAnew(), 9990);
        x.pass(1);
        due("too late", x.best(), 0);
        due("too late, anew", x.bestAnew(), 0);
        x.request(6, 3, 60, false);
        x.request(8, 3, 60, false);
        x.driver(6);
        x.driver(0);
        due("the airport left out, its driver not", x.best(), 29994);
        due("the same anew", x.bestAnew(), 29994);
        due("nothing is given", x.requestIs(0, 0), HailCity.WAITS);
        x.request(5, 3, 60, false);
        x.request(5, 3, 60, false);
        due("5 WAIT", x.best(), 29994);
        due("5 WAIT, anew", x.bestAnew(), 29994);
        x.request(5, 3, 60, false);
        dueThrow("6 WAIT", () -> x.best(), STATE);
        dueThrow("6 WAIT, anew", () -> x.bestAnew(), STATE);
        x.cancel(4);
        due("5 WAIT again", x.best(), 29994);
        due("5 WAIT again, anew", x.bestAnew(), 29994);
        for (int i = 2; i < 7; i++) {
            if (i != 4) {
                x.cancel(i);
            }
        }
        due("1 WAITS", x.best(), 9996);
        due("1 WAITS, anew", x.bestAnew(), 9996);
    }

    private static void match() {
        about("16 match");
        HailCity x = line(2);
        x.driver(3);
        x.driver(5);
        x.request(4, 8, 60, false);
        x.request(6, 9, 60, false);
        x.request(0, 9, 60, false);
        due("two given", x.match(), 2);
        due("the least sum", x.requestIs(0, 2), 0);
        due("the other", x.requestIs(1, 2), 1);
        due("not at the airport", x.requestIs(2, 0), HailCity.WAITS);
        row("sent there, and then to where it goes", x, 0, 4, 0, 8, 100);
        due("the minute", x.driverIs(0, 2), 2);
        due("the promise", x.requestIs(0, 3), 2 + 12);
        due("SENT", x.requestIs(0, 0), HailCity.SENT);
        // As many as can be comes ahead of the least sum.
        HailCity y = line(2);
        y.driver(4);
        y.driver(1);
        y.request(4, 5, 60, false);
        y.request(5, 6, 5, false);
        due("both can be given", y.best(), 19992);
        due("both are given", y.match(), 2);
        due("the nearest one goes on", y.requestIs(0, 2), 1);
        due("to whom nobody else can", y.requestIs(1, 2), 0);
        // A request at the place of the driver is let in within the call.
        HailCity z = line(3);
        z.driver(7);
        z.request(7, 6, 1, false);
        z.match();
        due("ABOARD", z.requestIs(0, 0), HailCity.ABOARD);
        due("the promise rounded down", z.requestIs(0, 3), 4);
        row("let in", z, 0, 6, 100);
        due("the minute of the next", z.driverIs(0, 2), 3);
        for (int i = 0; i < 6; i++) {
            z.request(9, 8, 60, false);
        }
        dueThrow("6 WAIT", () -> z.match(), STATE);
        HailCity w = new HailCity();
        w.street(1, 2, 1);
        w.driver(3);
        w.request(1, 2, 60, false);
        due("no way to it", w.match(), 0);
    }

    private static void matchTies() {
        about("16 match, the same sum");
        HailCity x = line(2);
        x.driver(5);
        x.driver(3);
        x.driver(3);
        x.request(4, 8, 60, false);
        x.request(4, 9, 60, false);
        due("two given", x.match(), 2);
        due("the lowest driver for the lowest request", x.requestIs(0, 2), 0);
        due("the next for the next", x.requestIs(1, 2), 1);
        HailCity y = line(2);
        y.driver(4);
        y.request(4, 8, 60, false);
        y.request(4, 9, 60, false);
        y.match();
        due("any driver is lower than none", y.requestIs(0, 2), 0);
        due("none", y.requestIs(1, 0), HailCity.WAITS);
        HailCity z = line(2);
        z.driver(2);
        z.driver(6);
        z.request(4, 8, 60, false);
        z.request(6, 8, 60, false);
        z.match();
        due("the sum goes ahead", z.requestIs(0, 2), 0);
        HailCity w = line(2);
        w.driver(6);
        w.driver(2);
        w.request(4, 8, 60, false);
        w.request(6, 8, 60, false);
        w.match();
        due("the sum goes ahead of the lowest driver", w.requestIs(0, 2), 1);
    }

    private static void share() {
        about("17 share");
        HailCity x = line(2);
        x.driver(1);
        x.request(1, 9, 60, true);
        due("no driver with stops", x.share(), 0);
        x.match();
        x.slow(0, 3);
        x.request(9, 7, 60, false);
        due("one that is not shared", x.share(), 0);
        x.request(9, 8, 15, true);
        due("the patience ends ahead of it", x.share(), 0);
        x.request(9, 8, 16, true);
        due("just then", x.share(), 1);
        row("behind the next one", x, 0, 9, 100, 9, 3, 8, 103);
        due("SENT", x.requestIs(3, 0), HailCity.SENT);
        due("its driver", x.requestIs(3, 2), 0);
        due("its promise", x.requestIs(3, 3), 16 + 3);
        x.request(9, 8, 60, true);
        x.request(9, 8, 60, true);
        due("two more, to four riders", x.share(), 2);
        x.request(9, 8, 60, true);
        due("no fifth rider", x.share(), 0);
        due("8 stops less one", x.driverIs(0, 1), 7);
        // A driver whose rider does not share takes nobody.
        HailCity y = line(2);
        y.driver(1);
        y.request(1, 9, 60, false);
        y.match();
        y.request(9, 8, 60, true);
        due("a row that is not shared", y.share(), 0);
        y.driver(5);
        y.wander(1, 9);
        due("a row for nobody", y.share(), 0);
        // At the airport too; and ahead of the airport's stops nothing is put in.
        HailCity z = line(2);
        z.driver(2);
        z.request(2, 0, 60, true);
        z.match();
        z.request(0, 2, 60, true);
        due("one that begins at the airport", z.share(), 1);
        row("at the airport", z, 0, 0, 100, 0, 1, 2, 101);
        z.pass(4);
        row("let out and let in at one minute", z, 0, 2, 101);
    }

    private static void sharePromises() {
        about("17 share, promises");
        // Driver 0 goes from 1 to 3 to let in, then to 7: promise 4 + 12.
        HailCity x = line(2);
        x.driver(1);
        x.request(3, 7, 60, true);
        x.match();
        x.request(5, 8, 60, true);
        due("between the stops", x.share(), 1);
        row("the least more", x, 0, 3, 0, 5, 1, 7, 100, 8, 101);
        due("the promise of the second", x.requestIs(1, 3), 8 + 9);
        due("that of the first stays", x.requestIs(0, 3), 16);
        x.request(4, 3, 60, true);
        // Put between 3 and 5 it would lead to 7 at 16, just then, but to 8 at 18, later than 17: so behind them.
        due("all promises are kept", x.share(), 1);
        row("behind the last", x, 0, 3, 0, 5, 1, 7, 100, 8, 101, 4, 2, 3, 102);
        // At the next stop too: its rider will be let out later than promised.
        HailCity y = line(2);
        y.driver(2);
        y.request(1, 9, 60, true);
        y.match();
        for (int i = 1; i < 9; i++) {
            y.slow(i, 20);
        }
        y.pass(2);
        due("the next stop", y.driverIs(0, 2), 162);
        y.request(9, 8, 60, true);
        for (int i = 1; i < 9; i++) {
            y.slow(i, 2);
        }
        y.pass(110);
        y.request(9, 8, 60, true);
        due("broken at the next stop", y.share(), 0);
        // The new one's own promise.
        HailCity z = line(10);
        z.driver(3);
        z.request(3, 4, 60, true);
        z.match();
        z.request(4, 3, 60, true);
        due("one", z.share(), 1);
        z.request(4, 3, 60, true);
        due("at the same places", z.share(), 1);
        row("the lowest places", z, 0, 4, 100, 4, 2, 4, 1, 3, 102, 3, 101);
    }

    private static void shareTies() {
        about("17 share, the same");
        HailCity x = line(2);
        x.driver(1);
        x.driver(1);
        x.request(1, 3, 60, true);
        x.request(1, 3, 60, true);
        x.match();
        x.request(3, 4, 60, true);
        x.share();
        due("the lowest driver", x.requestIs(2, 2), 0);
        x.request(3, 4, 60, true);
        x.share();
        due("the least more", x.requestIs(3, 2), 0);
        x.request(3, 9, 60, true);
        x.share();
        due("the least more of both", x.requestIs(4, 2), 0);
        // Not the soonest last stop, but the least more.
        HailCity y = line(2);
        y.driver(1);
        y.driver(1);
        y.request(1, 2, 60, true);
        y.request(1, 6, 60, true);
        y.match();
        y.request(6, 7, 60, true);
        y.share();
        due("the least more, though later", y.requestIs(2, 2), 1);
        // More than all the row as it is, by the minutes of all its stops.
        HailCity z = line(2);
        z.driver(2);
        z.driver(2);
        z.request(2, 3, 60, true);
        z.request(3, 8, 60, true);
        z.match();
        due("the longer row", z.driverIs(1, 1), 2);
        z.request(3, 4, 60, true);
        z.share();
        due("none more on the longer row", z.requestIs(2, 2), 1);
        // The requests go by numbers, from the lowest on.
        HailCity w = line(2);
        w.driver(1);
        w.request(0, 1, 60, true);
        w.request(1, 0, 60, true);
        w.match();
        due("the first request is shared too", w.share(), 1);
        row("the first request", w, 0, 0, 101, 0, 0, 1, 100);
    }

    private static void requestIs() {
        about("18 requestIs");
        HailCity x = line(3);
        x.driver(2);
        x.pass(2);
        x.request(1, 3, 7, true);
        int[] waiting = {HailCity.WAITS, 540, -1, -1, -1, 0, 9};
        asked(x, 0, waiting);
        x.match();
        int[] sent = {HailCity.SENT, 540, 0, 5 + 9, -1, 0, 9};
        asked(x, 0, sent);
        x.pass(3);
        int[] aboard = {HailCity.ABOARD, 540, 0, 14, -1, 0, 9};
        asked(x, 0, aboard);
        x.pass(6);
        int[] done = {HailCity.DONE, 540, 0, 14, 11, 0, 9};
        asked(x, 0, done);
        x.request(3, 4, 1, true);
        x.pass(1);
        int[] gone = {HailCity.GONE, 420, -1, -1, -1, 0, 12};
        asked(x, 1, gone);
        dueThrow("request -1", () -> x.requestIs(-1, 0), BOUNDS);
        dueThrow("request 2, and what", () -> x.requestIs(2, 7), BOUNDS);
        dueThrow("what -1", () -> x.requestIs(0, -1), ARGUMENT);
        dueThrow("what 7", () -> x.requestIs(0, 7), ARGUMENT);
        // Let out just at the promise, and a minute later.
        for (int more = 0; more < 2; more++) {
            HailCity y = new HailCity();
            y.street(1, 2, 1);
            y.street(2, 3, 6);
            y.driver(1);
            y.request(2, 3, 60, false);
            y.match();
            y.slow(1, 9 + more);
            y.pass(60);
            due("let out", y.requestIs(0, 4), 10 + more);
            due("broken", y.requestIs(0, 5), more);
        }
    }

    private static void asked(HailCity x, int request, int[] want) {
        for (int what = 0; what < want.length; what++) {
            due("requestIs(" + request + ", " + what + ")", x.requestIs(request, what), want[what]);
        }
    }

    private static void driverIs() {
        about("19 driverIs");
        HailCity x = line(3);
        x.driver(4);
        toldOf(x, new int[] {4, 0, -1, 1, 500, 0, 0});
        x.request(5, 6, 60, false);
        x.match();
        toldOf(x, new int[] {4, 2, 3, 0, 500, 0, 0});
        x.pass(4);
        toldOf(x, new int[] {5, 1, 6, 0, 500, 4, 0});
        x.pass(4);
        toldOf(x, new int[] {6, 0, -1, 1, 500, 6, 1});
        x.rate(0, 4);
        toldOf(x, new int[] {6, 0, -1, 1, 400, 6, 1});
        dueThrow("driver -1", () -> x.driverIs(-1, 0), BOUNDS);
        dueThrow("driver 1, and what", () -> x.driverIs(1, 7), BOUNDS);
        dueThrow("what -1", () -> x.driverIs(0, -1), ARGUMENT);
        dueThrow("what 7", () -> x.driverIs(0, 7), ARGUMENT);
    }

    private static void toldOf(HailCity x, int[] want) {
        for (int what = 0; what < want.length; what++) {
            due("driverIs(0, " + what + ")", x.driverIs(0, what), want[what]);
        }
    }

    private static void stop() {
        about("20 stop");
        HailCity x = line(3);
        x.driver(4);
        due("without stops", x.stop(0, 0, false), -1);
        due("without stops, whom", x.stop(0, 0, true), -1);
        x.request(1, 2, 60, false);
        x.cancel(0);
        x.request(6, 8, 60, false);
        x.match();
        due("the next", x.stop(0, 0, false), 6);
        due("whom", x.stop(0, 0, true), 1);
        due("the one behind it", x.stop(0, 1, false), 8);
        due("let out", x.stop(0, 1, true), 101);
        due("behind the last", x.stop(0, 2, false), -1);
        due("far behind the last", x.stop(0, Integer.MAX_VALUE, true), -1);
        dueThrow("stop -1", () -> x.stop(0, -1, false), BOUNDS);
        dueThrow("driver 1", () -> x.stop(1, 0, false), BOUNDS);
        dueThrow("driver -1", () -> x.stop(-1, 0, true), BOUNDS);
        x.cancel(1);
        row("for nobody", x, 0, 6, -1);
    }

    private static void pay() {
        about("21 pay");
        HailCity x = line(1);
        x.driver(1);
        due("nothing", x.pay(0), 0);
        x.request(1, 2, 60, false);
        x.match();
        due("not DONE", x.pay(0), 0);
        x.pass(1);
        due("75 hundredths", x.pay(0), 255);
        x.request(3, 2, 60, false);
        x.match();
        for (int i = 1; i < 9; i++) {
            x.slow(i, 20);
        }
        x.pass(21);
        due("30 for each minute, if that is more", x.pay(0), 22 * 30);
        dueThrow("driver -1", () -> x.pay(-1), BOUNDS);
        dueThrow("driver 1", () -> x.pay(1), BOUNDS);
        // 425 and 425 make 850, of which 637 and a half, not twice 318 and three quarters rounded down.
        HailCity y = line(1);
        for (int i = 0; i < 3; i++) {
            y.request(3, 4, 1, false);
        }
        y.driver(9);
        y.request(4, 3, 60, false);
        due("the height of 175", y.requestIs(3, 1), 595);
        y.pass(1);
        y.match();
        y.pass(6);
        due("446 and a quarter", y.pay(0), 446);
        due("DONE", y.driverIs(0, 6), 1);
        y.request(4, 5, 1, false);
        y.pass(1);
        for (int i = 0; i < 3; i++) {
            y.request(6, 7, 1, false);
        }
        y.request(6, 5, 60, false);
        due("the second of 595", y.requestIs(8, 1), 595);
        y.cancel(5);
        y.cancel(6);
        y.cancel(7);
        y.match();
        y.pass(4);
        due("of 1190 together, rounded down once", y.pay(0), 892);
    }

    private static void pass() {
        about("22 pass");
        HailCity x = line(2);
        due("the minute then", x.pass(120), 120);
        dueThrow("0", () -> x.pass(0), ARGUMENT);
        dueThrow("-1", () -> x.pass(-1), ARGUMENT);
        dueThrow("121", () -> x.pass(121), ARGUMENT);
        // Stops are done ahead of patience.
        x.request(8, 9, 2, false);
        x.driver(8);
        x.pass(1);
        due("WAITS", x.requestIs(0, 0), HailCity.WAITS);
        x.pass(1);
        due("GONE", x.requestIs(0, 0), HailCity.GONE);
        // One that is SENT is waited for.
        x.request(9, 8, 3, false);
        x.match();
        x.pass(1);
        x.request(9, 8, 1, false);
        x.pass(1);
        due("let in", x.requestIs(1, 0), HailCity.ABOARD);
        due("GONE then", x.requestIs(2, 0), HailCity.GONE);
        HailCity z = line(1);
        z.driver(1);
        z.request(3, 4, 2, false);
        z.match();
        z.slow(1, 20);
        z.pass(2);
        due("let in when the patience is over", z.requestIs(0, 0), HailCity.ABOARD);
        // A minute counts by how it begins.
        z.pass(1);
        due("three minutes", z.driverIs(0, 5), 3);
        due("FREE", z.driverIs(0, 3), 1);
        z.pass(1);
        due("three minutes still", z.driverIs(0, 5), 3);
        HailCity y = new HailCity();
        for (int i = 0; i < 166; i++) {
            y.pass(120);
        }
        dueThrow("above 20000", () -> y.pass(81), STATE);
        dueThrow("above 20000, and out of range", () -> y.pass(121), ARGUMENT);
        due("just 20000", y.pass(80), 20000);
        dueThrow("20001", () -> y.pass(1), STATE);
    }
}
