import java.io.IOException;

/** The sentences of the promises 1 to 22, one by one. */
public final class PromiseSentences extends Sentences {
    private static final String NO_PLACE = "Throws `IndexOutOfBoundsException` if there is no such place, of either";
    private static final String MORE_THAN_5 = "if more than 5 WAIT, the airport left out";

    public static void main(String[] args) throws IOException {
        open(args);
        newObject();
        street();
        slow();
        way();
        driver();
        rest();
        wander();
        cap();
        height();
        request();
        cancel();
        rate();
        airport();
        best("Promise 14: best", "Returns what a match would come to", x -> x.best());
        best("Promise 15: bestAnew", "Returns the same, found by trying, driver by driver", x -> x.bestAnew());
        match();
        share();
        requestIs();
        driverIs();
        stop();
        pay();
        pass();
        endSection();
        finish("PromiseSentences");
    }

    private static void newObject() {
        section("Promise 1: A new object");
        says("No streets, drivers and requests.", () -> {
            HailCity x = new HailCity();
            dueThrow("no street", () -> x.slow(0, 1), BOUNDS);
            dueThrow("no driver", () -> x.driverIs(0, 0), BOUNDS);
            dueThrow("no request", () -> x.requestIs(0, 0), BOUNDS);
            for (int place = 0; place < 10; place++) {
                for (int other = 0; other < 10; other++) {
                    due("way", x.way(place, other), place == other ? 0 : HailCity.NONE);
                }
            }
            for (int zone = 0; zone < 4; zone++) {
                due("height", x.height(zone), 100);
            }
            due("airport", x.airport(), 0);
            due("best", x.best(), 0);
            due("bestAnew", x.bestAnew(), 0);
            due("match", x.match(), 0);
            due("share", x.share(), 0);
            due("pass", x.pass(120), 120);
            Cities.busy();
            dueThrow("nothing of another object", () -> new HailCity().driverIs(0, 0), BOUNDS);
        });
    }

    private static void street() {
        section("Promise 2: street");
        says("Tells a street.", () -> {
            HailCity x = new HailCity();
            due("no way", x.way(0, 9), HailCity.NONE);
            x.street(0, 9, 5);
            due("a way", x.way(0, 9), 5);
            x.street(9, 0, 3);
            due("another one between them", x.way(0, 9), 3);
            x.street(0, 9, 4);
            due("a longer one", x.way(0, 9), 3);
        });
        says("`minutes`: 1 to 20", () -> {
            HailCity x = new HailCity();
            x.street(0, 1, 1);
            x.street(1, 2, 20);
            due("1", x.way(0, 1), 1);
            due("20", x.way(1, 2), 20);
        });
        says("Returns its number.", () -> {
            HailCity x = new HailCity();
            for (int i = 0; i < 20; i++) {
                due("number", x.street(i % 10, (i + 1) % 10, 20), i);
                due("of that number", x.slow(i, 1), 20);
            }
        });
        says(NO_PLACE, () -> {
            HailCity x = new HailCity();
            refusesOutside("place", 0, 9, place -> x.street(place, 5, 5), BOUNDS);
            refusesOutside("other", 0, 9, place -> x.street(5, place, 5), BOUNDS);
            refusesOutside("both", 0, 9, place -> x.street(place, place, 5), BOUNDS);
        });
        says("Throws `IllegalArgumentException` if both are the same, or minutes is out of range", () -> {
            HailCity x = new HailCity();
            dueThrow("the lowest, twice", () -> x.street(0, 0, 5), ARGUMENT);
            dueThrow("the highest, twice", () -> x.street(9, 9, 5), ARGUMENT);
            refusesOutside("minutes", 1, 20, minutes -> x.street(0, 9, minutes), ARGUMENT);
            due("none was told", x.way(0, 9), HailCity.NONE);
        });
        says("Throws `IllegalStateException` if there are 20", () -> {
            HailCity x = new HailCity();
            for (int i = 0; i < 19; i++) {
                x.street(0, 1, 5);
            }
            due("the 20th", x.street(0, 1, 5), 19);
            dueThrow("the 21st", () -> x.street(0, 1, 1), STATE);
            due("not told", x.way(0, 1), 5);
        });
    }

    private static void slow() {
        section("Promise 3: slow");
        says("Tells how many minutes a street takes from now on.", () -> {
            HailCity x = line(2);
            x.driver(1);
            x.wander(0, 2);
            x.slow(1, 9);
            due("who is under way", x.driverIs(0, 2), 2);
            due("by now", x.way(1, 2), 9);
            due("the other streets", x.way(2, 4), 4);
            x.pass(2);
            due("from now on", x.wander(0, 1), 11);
        });
        says("`minutes`: 1 to 20", () -> {
            HailCity x = line(2);
            x.slow(0, 20);
            x.slow(8, 1);
            due("20", x.way(0, 1), 20);
            due("1", x.way(8, 9), 1);
        });
        says("Returns how many it took.", () -> {
            HailCity x = line(2);
            due("as told", x.slow(8, 20), 2);
            due("by then", x.slow(8, 20), 20);
            due("by then again", x.slow(8, 1), 20);
            due("the least", x.slow(8, 5), 1);
            due("another one", x.slow(0, 5), 2);
        });
        says("Throws `IndexOutOfBoundsException` if there is no such street", () -> {
            HailCity x = line(2);
            refusesOutside("street", 0, 8, street -> x.slow(street, 5), BOUNDS);
            HailCity y = new HailCity();
            refusesOutside("street of none", 0, -1, street -> y.slow(street, 5), BOUNDS);
            for (int i = 0; i < 20; i++) {
                y.street(0, 1, 5);
            }
            due("the 20th", y.slow(19, 1), 5);
            refusesOutside("street of 20", 0, 19, street -> y.slow(street, 5), BOUNDS);
        });
        says("Throws `IllegalArgumentException` if minutes is out of range", () -> {
            HailCity x = line(2);
            refusesOutside("minutes", 1, 20, minutes -> x.slow(0, minutes), ARGUMENT);
            due("unchanged", x.way(0, 1), 2);
        });
    }

    private static void way() {
        section("Promise 4: way");
        says("Returns the minutes between two places.", () -> {
            HailCity x = line(20);
            for (int from = 0; from < 10; from++) {
                for (int to = 0; to < 10; to++) {
                    due("all along", x.way(from, to), 20 * Math.abs(from - to));
                }
            }
        });
        says("Returns the minutes, 0 to itself; NONE without a way.", () -> {
            HailCity x = new HailCity();
            x.street(3, 4, 7);
            x.street(5, 6, 7);
            due("itself", x.way(3, 3), 0);
            due("itself, without a street", x.way(0, 0), 0);
            due("itself, the highest", x.way(9, 9), 0);
            due("no street at all", x.way(3, 9), HailCity.NONE);
            due("streets that do not meet", x.way(4, 5), HailCity.NONE);
            x.street(4, 5, 20);
            due("streets that meet", x.way(6, 3), 34);
        });
        says(NO_PLACE, () -> {
            HailCity x = line(2);
            refusesOutside("from", 0, 9, place -> x.way(place, 5), BOUNDS);
            refusesOutside("to", 0, 9, place -> x.way(5, place), BOUNDS);
            refusesOutside("both", 0, 9, place -> x.way(place, place), BOUNDS);
        });
    }

    private static void driver() {
        section("Promise 5: driver");
        says("Tells a driver.", () -> {
            HailCity x = line(2);
            x.driver(9);
            due("its place", x.driverIs(0, 0), 9);
            due("FREE", x.driverIs(0, 3), 1);
            x.request(9, 8, 60, false);
            due("to be matched", x.match(), 1);
        });
        says("Returns its number.", () -> {
            HailCity x = line(2);
            for (int i = 0; i < 8; i++) {
                due("number", x.driver(9 - i), i);
                due("the place of that number", x.driverIs(i, 0), 9 - i);
            }
        });
        says("Throws `IndexOutOfBoundsException` if there is no such place", () -> {
            HailCity x = line(2);
            refusesOutside("place", 0, 9, place -> x.driver(place), BOUNDS);
            due("none was told", x.driver(0), 0);
        });
        says("Throws `IllegalStateException` if there are 8", () -> {
            HailCity x = line(2);
            for (int i = 0; i < 7; i++) {
                x.driver(1);
            }
            due("the eighth", x.driver(1), 7);
            dueThrow("the ninth", () -> x.driver(1), STATE);
        });
    }

    private static void rest() {
        section("Promise 6: rest");
        says("Lets a driver begin a break, or end it.", () -> {
            HailCity x = line(2);
            x.driver(1);
            x.driver(1);
            x.rest(0, true);
            due("not FREE", x.driverIs(0, 3), 0);
            due("the other is", x.driverIs(1, 3), 1);
            x.pass(120);
            due("for as long as it is not ended", x.driverIs(0, 3), 0);
            x.rest(0, false);
            due("FREE", x.driverIs(0, 3), 1);
        });
        says("Returns whether there was one.", () -> {
            HailCity x = line(2);
            x.driver(1);
            due("none to end", bit(x.rest(0, false)), 0);
            due("none to begin with", bit(x.rest(0, true)), 0);
            due("one already", bit(x.rest(0, true)), 1);
            due("one to end", bit(x.rest(0, false)), 1);
            due("none any more", bit(x.rest(0, false)), 0);
        });
        says("Throws `IndexOutOfBoundsException` if there is no such driver", () -> {
            HailCity x = line(2);
            refusesOutside("driver of none", 0, -1, driver -> bit(x.rest(driver, true)), BOUNDS);
            x.driver(1);
            refusesOutside("driver of one", 0, 0, driver -> bit(x.rest(driver, false)), BOUNDS);
            for (int i = 1; i < 8; i++) {
                x.driver(1);
            }
            refusesOutside("driver of eight", 0, 7, driver -> bit(x.rest(driver, true)), BOUNDS);
            due("the eighth", bit(x.rest(7, true)), 0);
        });
        says("Throws `IllegalStateException` if the driver has stops", () -> {
            HailCity x = line(2);
            x.driver(1);
            x.wander(0, 2);
            dueThrow("for nobody", () -> bit(x.rest(0, true)), STATE);
            dueThrow("for nobody, to end", () -> bit(x.rest(0, false)), STATE);
            x.pass(2);
            x.request(3, 4, 60, false);
            x.match();
            dueThrow("to let in", () -> bit(x.rest(0, true)), STATE);
            x.pass(2);
            dueThrow("to let out", () -> bit(x.rest(0, true)), STATE);
            x.pass(2);
            due("none any more", bit(x.rest(0, true)), 0);
        });
    }

    private static void wander() {
        section("Promise 7: wander");
        says("Sends a FREE driver to a place, for nobody.", () -> {
            HailCity x = line(2);
            x.driver(1);
            x.wander(0, 9);
            row("one stop", x, 0, 9, HailCity.NONE);
            due("not FREE", x.driverIs(0, 3), 0);
            x.pass(15);
            due("not there yet", x.driverIs(0, 0), 1);
            x.pass(1);
            due("there", x.driverIs(0, 0), 9);
            due("FREE there", x.driverIs(0, 3), 1);
            due("no minutes count", x.driverIs(0, 5), 0);
            due("none DONE", x.driverIs(0, 6), 0);
        });
        says("Returns the minute at which the place is reached.", () -> {
            HailCity x = line(2);
            x.driver(1);
            x.pass(5);
            due("from now on", x.wander(0, 0), 7);
            due("asked for", x.driverIs(0, 2), 7);
        });
        says("Throws `IndexOutOfBoundsException` if there is no such driver or place", () -> {
            HailCity x = line(2);
            refusesOutside("driver of none", 0, -1, driver -> x.wander(driver, 2), BOUNDS);
            x.driver(1);
            refusesOutside("driver of one", 0, 0, driver -> x.wander(driver, 2), BOUNDS);
            refusesOutside("place", 0, 9, place -> x.wander(0, place), BOUNDS);
            dueThrow("neither", () -> x.wander(1, 10), BOUNDS);
            due("not sent", x.driverIs(0, 1), 0);
        });
        says("Throws `IllegalStateException` if the driver is not FREE, there is no way, or it is the place "
                + "where the driver is", () -> {
            HailCity x = new HailCity();
            x.street(1, 2, 1);
            x.driver(1);
            dueThrow("no way", () -> x.wander(0, 3), STATE);
            dueThrow("the place where the driver is", () -> x.wander(0, 1), STATE);
            x.rest(0, true);
            dueThrow("on a break", () -> x.wander(0, 2), STATE);
            x.rest(0, false);
            x.wander(0, 2);
            dueThrow("with a stop", () -> x.wander(0, 2), STATE);
            dueThrow("with a stop, back", () -> x.wander(0, 1), STATE);
            x.pass(1);
            dueThrow("the place where the driver is by now", () -> x.wander(0, 2), STATE);
            due("back", x.wander(0, 1), 2);
            HailCity y = Cities.shuttle();
            Cities.rides(y, 5);
            Cities.rate(y, 0, 1, 1, 1, 1, 1);
            dueThrow("barred", () -> y.wander(0, 1), STATE);
        });
    }

    private static void cap() {
        section("Promise 8: cap");
        says("Sets the cap of heights.", () -> {
            HailCity x = line(2);
            for (int i = 0; i < 5; i++) {
                x.request(3 * (i % 4), i % 2 + 1, 60, false);
                x.request(3 * (i % 4), i % 2 + 1, 60, false);
            }
            x.cap(149);
            for (int zone = 0; zone < 4; zone++) {
                due("of each zone", x.height(zone), 149);
            }
            x.cap(300);
            due("set again", x.height(1), 150);
        });
        says("`cap`: 100 to 300", () -> {
            HailCity x = line(2);
            for (int i = 0; i < 9; i++) {
                x.request(4, 5, 60, false);
            }
            x.cap(100);
            due("the lowest", x.height(1), 100);
            x.cap(300);
            due("the highest", x.height(1), 300);
        });
        says("Returns the one before.", () -> {
            HailCity x = line(2);
            due("at first", x.cap(100), 300);
            due("the lowest", x.cap(300), 100);
            due("the highest", x.cap(300), 300);
            due("the same", x.cap(200), 300);
        });
        says("Throws `IllegalArgumentException` if cap is out of range", () -> {
            HailCity x = line(2);
            x.cap(123);
            refusesOutside("cap", 100, 300, cap -> x.cap(cap), ARGUMENT);
            due("unchanged", x.cap(100), 123);
        });
    }

    private static void height() {
        section("Promise 9: height");
        says("Returns the height of a zone.", () -> {
            HailCity x = line(2);
            for (int zone = 0; zone < 4; zone++) {
                for (int i = 0; i <= zone; i++) {
                    x.request(3 * zone, 1, 60, false);
                }
            }
            for (int zone = 0; zone < 4; zone++) {
                due("zone " + zone, x.height(zone), 125 + 25 * zone);
            }
        });
        says("`zone`: 0 to 3", () -> {
            due("the lowest", new HailCity().height(0), 100);
            due("the highest", new HailCity().height(3), 100);
        });
        says("Throws `IndexOutOfBoundsException` if there is no such zone", () ->
            refusesOutside("zone", 0, 3, zone -> new HailCity().height(zone), BOUNDS));
    }

    private static void request() {
        section("Promise 10: request");
        says("Tells a request.", () -> {
            HailCity x = line(2);
            x.request(4, 6, 9, true);
            due("it WAITS", x.requestIs(0, 0), HailCity.WAITS);
            due("its price", x.requestIs(0, 1), 460);
            due("its patience", x.requestIs(0, 6), 9);
            x.driver(4);
            due("to be matched", x.match(), 1);
            row("where it goes", x, 0, 6, 100);
        });
        says("`patience`: 1 to 60", () -> {
            HailCity x = line(2);
            x.request(4, 6, 1, true);
            x.request(4, 6, 60, true);
            x.pass(1);
            due("1", x.requestIs(0, 0), HailCity.GONE);
            x.pass(58);
            due("60, a minute ahead", x.requestIs(1, 0), HailCity.WAITS);
            x.pass(1);
            due("60", x.requestIs(1, 0), HailCity.GONE);
        });
        says("Returns its number.", () -> {
            HailCity x = line(2);
            for (int i = 0; i < 60; i++) {
                due("number", x.request(4, 6, i + 1, true), i);
                due("of that number", x.requestIs(i, 6), i + 1);
            }
        });
        says(NO_PLACE, () -> {
            HailCity x = line(2);
            refusesOutside("from", 0, 9, place -> x.request(place, 5, 5, true), BOUNDS);
            refusesOutside("to", 0, 9, place -> x.request(5, place, 5, true), BOUNDS);
            refusesOutside("both", 0, 9, place -> x.request(place, place, 5, true), BOUNDS);
        });
        says("Throws `IllegalArgumentException` if both are the same, or patience is out of range", () -> {
            HailCity x = line(2);
            dueThrow("the lowest, twice", () -> x.request(0, 0, 5, true), ARGUMENT);
            dueThrow("the highest, twice", () -> x.request(9, 9, 5, true), ARGUMENT);
            refusesOutside("patience", 1, 60, patience -> x.request(0, 9, patience, true), ARGUMENT);
            due("none was told", x.height(0), 100);
        });
        says("Throws `IllegalStateException` if there are 60, or there is no way", () -> {
            HailCity x = new HailCity();
            x.street(1, 2, 1);
            dueThrow("no way", () -> x.request(1, 3, 5, true), STATE);
            for (int i = 0; i < 59; i++) {
                x.request(1, 2, 5, true);
            }
            due("the 60th", x.request(1, 2, 5, true), 59);
            dueThrow("the 61st", () -> x.request(1, 2, 5, true), STATE);
            dueThrow("the 61st, and no way", () -> x.request(1, 3, 5, true), STATE);
        });
    }

    private static void cancel() {
        section("Promise 11: cancel");
        says("Cancels a request.", () -> {
            HailCity x = Cities.busy();
            for (int request : new int[] {3, 4, 6, 7}) {
                x.cancel(request);
                due("GONE", x.requestIs(request, 0), HailCity.GONE);
            }
            row("one SENT", x, 4, 5, HailCity.NONE);
            row("one shared", x, 0, 9, 102, 9, HailCity.NONE);
        });
        says("Returns what is to be paid.", () -> {
            HailCity x = Cities.busy();
            due("one that WAITS", x.cancel(7), 0);
            due("one sent a minute ago", x.cancel(4), 0);
            x.pass(2);
            due("one sent 3 minutes ago", x.cancel(3), 500);
        });
        says("Throws `IndexOutOfBoundsException` if there is no such request", () -> {
            HailCity x = line(2);
            refusesOutside("request of none", 0, -1, request -> x.cancel(request), BOUNDS);
            for (int i = 0; i < 60; i++) {
                x.request(1, 2, 5, true);
            }
            refusesOutside("request of 60", 0, 59, request -> x.cancel(request), BOUNDS);
            due("the last one", x.cancel(59), 0);
        });
        says("Throws `IllegalStateException` if it neither WAITS nor is SENT", () -> {
            HailCity x = Cities.busy();
            dueThrow("DONE", () -> x.cancel(0), STATE);
            dueThrow("ABOARD", () -> x.cancel(2), STATE);
            dueThrow("GONE", () -> x.cancel(5), STATE);
            due("the one ABOARD stays", x.requestIs(2, 0), HailCity.ABOARD);
        });
    }

    private static void rate() {
        section("Promise 12: rate");
        says("Rates a request.", () -> {
            HailCity x = Cities.busy();
            x.rate(1, 2);
            due("its driver", x.driverIs(1, 4), 200);
            due("another one", x.driverIs(0, 4), 400);
        });
        says("`stars`: 1 to 5", () -> {
            HailCity x = Cities.shuttle();
            Cities.rides(x, 2);
            due("1", x.rate(0, 1), 100);
            due("5", x.rate(1, 5), 300);
        });
        says("Returns the rating of the driver then.", () -> {
            HailCity x = Cities.shuttle();
            Cities.rides(x, 12);
            int sum = 0;
            for (int i = 0; i < 10; i++) {
                sum += i % 5 + 1;
                due("rating " + i, x.rate(i, i % 5 + 1), sum * 100 / (i + 1));
                due("asked for", x.driverIs(0, 4), sum * 100 / (i + 1));
            }
            due("the 11th for the first", x.rate(10, 5), (sum + 4) * 10);
            due("the 12th for the second", x.rate(11, 5), (sum + 7) * 10);
        });
        says("Throws `IndexOutOfBoundsException` if there is no such request", () -> {
            HailCity x = line(2);
            refusesOutside("request of none", 0, -1, request -> x.rate(request, 5), BOUNDS);
            x.request(1, 2, 5, true);
            refusesOutside("request of one", 0, 0, request -> x.rate(request, 5), BOUNDS);
        });
        says("Throws `IllegalArgumentException` if stars is out of range", () -> {
            HailCity x = Cities.shuttle();
            Cities.rides(x, 1);
            refusesOutside("stars", 1, 5, stars -> x.rate(0, stars), ARGUMENT);
            due("not rated", x.rate(0, 3), 300);
        });
        says("Throws `IllegalStateException` if it is not DONE, or was rated", () -> {
            HailCity x = Cities.busy();
            dueThrow("was rated", () -> x.rate(0, 4), STATE);
            for (int request : new int[] {2, 3, 4, 5, 6, 7}) {
                dueThrow("not DONE", () -> x.rate(request, 4), STATE);
            }
            due("no more stars than one", x.driverIs(0, 4), 400);
            due("DONE, and not rated", x.rate(1, 1), 100);
            dueThrow("was rated by then", () -> x.rate(1, 1), STATE);
        });
    }

    private static void airport() {
        section("Promise 13: airport");
        says("Gives requests at the airport; returns how many.", () -> {
            HailCity x = line(2);
            due("none", x.airport(), 0);
            for (int i = 0; i < 3; i++) {
                x.driver(0);
                x.request(0, 4, 60, true);
            }
            x.driver(0);
            due("all three", x.airport(), 3);
            for (int i = 0; i < 3; i++) {
                due("its driver", x.requestIs(i, 2), i);
                due("its promise", x.requestIs(i, 3), 12);
                row("let in at once", x, i, 4, 100 + i);
            }
            due("none any more", x.airport(), 0);
        });
    }

    private static void best(String heading, String quote, Cities.Call best) {
        section(heading);
        says(quote, () -> {
            HailCity x = line(1);
            due("none at all", best.on(x), 0);
            x.driver(1);
            due("no requests", best.on(x), 0);
            x.request(1, 2, 60, false);
            due("0 minutes", best.on(x), 10000);
            x.request(9, 8, 60, false);
            x.driver(1);
            due("8 minutes more", best.on(x), 19992);
            x.rest(1, true);
            due("one of two", best.on(x), 10000);
            x.rest(0, true);
            due("no drivers", best.on(x), 0);
            HailCity y = line(20);
            y.driver(1);
            y.request(4, 5, 60, false);
            due("just in time", best.on(y), 9940);
            y.pass(1);
            due("too late", best.on(y), 0);
            due("nothing is given", y.match(), 0);
            HailCity z = line(1);
            z.driver(1);
            z.driver(1);
            z.driver(1);
            for (int waiting = 1; waiting <= 5; waiting++) {
                z.request(2, 3, 60, false);
                due("requests " + waiting, best.on(z), 9999 * Math.min(waiting, 3));
            }
            for (int waiting = 4; waiting >= 0; waiting--) {
                z.cancel(4 - waiting);
                due("requests " + waiting + " again", best.on(z), 9999 * Math.min(waiting, 3));
            }
        });
        says("Throws `IllegalStateException` " + MORE_THAN_5, () -> {
            HailCity x = line(1);
            for (int i = 0; i < 7; i++) {
                x.driver(1);
                x.request(0, 1, 60, false);
            }
            for (int i = 0; i < 5; i++) {
                x.request(3, 2, 60, false);
            }
            due("just 5", best.on(x), 49990);
            x.request(3, 2, 60, false);
            dueThrow("6", () -> best.on(x), STATE);
            x.cancel(7);
            due("5 again", best.on(x), 49990);
        });
    }

    private static void match() {
        section("Promise 16: match");
        says("Matches.", () -> {
            HailCity x = line(2);
            x.driver(4);
            x.request(5, 6, 60, false);
            x.match();
            due("SENT", x.requestIs(0, 0), HailCity.SENT);
            due("its driver", x.requestIs(0, 2), 0);
            due("its promise", x.requestIs(0, 3), 5);
            row("sent there", x, 0, 5, 0, 6, 100);
        });
        says("Returns how many are given.", () -> {
            HailCity x = line(2);
            due("none at all", x.match(), 0);
            for (int i = 0; i < 5; i++) {
                x.request(5, 6, 60, false);
            }
            due("no drivers", x.match(), 0);
            x.driver(4);
            x.driver(4);
            due("two", x.match(), 2);
            for (int i = 0; i < 4; i++) {
                x.driver(4);
            }
            due("the three others", x.match(), 3);
            due("none any more", x.match(), 0);
        });
        says("Throws `IllegalStateException` " + MORE_THAN_5, () -> {
            HailCity x = line(2);
            x.driver(4);
            for (int i = 0; i < 6; i++) {
                x.request(5, 6, 60, false);
            }
            dueThrow("6", () -> x.match(), STATE);
            due("nobody is sent", x.driverIs(0, 3), 1);
            x.cancel(0);
            due("5", x.match(), 1);
        });
    }

    private static void share() {
        section("Promise 17: share");
        says("Shares; returns how many are put into rows.", () -> {
            HailCity x = line(2);
            due("none", x.share(), 0);
            x.driver(1);
            x.driver(9);
            x.request(1, 3, 60, true);
            x.request(9, 7, 60, true);
            x.match();
            x.request(7, 8, 60, true);
            x.request(3, 2, 60, false);
            x.request(3, 2, 60, true);
            due("two, into two rows", x.share(), 2);
            row("the one", x, 1, 7, 101, 7, 2, 8, 102);
            row("the other", x, 0, 3, 100, 3, 4, 2, 104);
            due("none any more", x.share(), 0);
        });
    }

    private static void requestIs() {
        section("Promise 18: requestIs");
        says("Tells of a request.", () -> {
            HailCity x = Cities.busy();
            asked(x, 0, HailCity.DONE, 380, 0, 3, 2, 0, 60);
            asked(x, 2, HailCity.ABOARD, 860, 0, 23, -1, 0, 62);
            asked(x, 3, HailCity.SENT, 380, 0, 19, -1, 0, 62);
            asked(x, 6, HailCity.WAITS, 620, -1, -1, -1, 0, 63);
        });
        says("0 how it is, 1 its price, 2 its driver, and 3 its promise, as they were told, GONE or not, "
                + "NONE if none was sent", () -> {
            HailCity x = Cities.busy();
            asked(x, 5, HailCity.GONE, 380, -1, -1, -1, 0, 3);
            x.cancel(4);
            asked(x, 4, HailCity.GONE, 380, 4, 9, -1, 0, 32);
            x.cancel(7);
            asked(x, 7, HailCity.GONE, 380, -1, -1, -1, 0, 8);
        });
        says("4 the minute at which its rider was let out, NONE till then", () -> {
            HailCity x = line(2);
            x.driver(1);
            x.request(1, 2, 60, false);
            due("WAITS", x.requestIs(0, 4), HailCity.NONE);
            x.match();
            x.pass(1);
            due("ABOARD", x.requestIs(0, 4), HailCity.NONE);
            x.pass(1);
            due("DONE", x.requestIs(0, 4), 2);
            x.pass(1);
            due("later", x.requestIs(0, 4), 2);
        });
        says("5 whether its promise was broken (1 or 0), 6 the minute at which its patience is over", () -> {
            for (int late = 0; late <= 1; late++) {
                HailCity x = new HailCity();
                x.street(1, 2, 1);
                x.street(2, 3, 4);
                x.driver(1);
                x.request(2, 3, 60, false);
                due("WAITS", x.requestIs(0, 5), 0);
                x.match();
                x.slow(1, 6 + late);
                x.pass(6 + late);
                due("ABOARD", x.requestIs(0, 5), 0);
                x.pass(1);
                due("let out at " + (7 + late) + ", promised 7", x.requestIs(0, 5), late);
                due("its patience", x.requestIs(0, 6), 60);
            }
        });
        says("Throws `IndexOutOfBoundsException` if there is no such request", () -> {
            HailCity x = line(2);
            refusesOutside("request of none", 0, -1, request -> x.requestIs(request, 0), BOUNDS);
            for (int i = 0; i < 60; i++) {
                int next = i + 1;
                x.request(1, 2, 60, true);
                dueThrow("request " + next, () -> x.requestIs(next, 0), BOUNDS);
            }
            refusesOutside("request of 60", 0, 59, request -> x.requestIs(request, 0), BOUNDS);
        });
        says("Throws `IllegalArgumentException` if what is out of range", () -> {
            HailCity x = Cities.busy();
            refusesOutside("what", 0, 6, what -> x.requestIs(0, what), ARGUMENT);
        });
    }

    private static void asked(HailCity x, int request, int... want) {
        for (int what = 0; what <= 6; what++) {
            due("requestIs(" + request + ", " + what + ")", x.requestIs(request, what), want[what]);
        }
    }

    private static void driverIs() {
        section("Promise 19: driverIs");
        says("Tells of a driver.", () -> {
            HailCity x = Cities.busy();
            told(x, 0, 2, 3, 16, 0, 400, 3, 1);
            told(x, 1, 2, 1, 9, 0, 500, 2, 1);
            told(x, 4, 7, 2, 6, 0, 500, 1, 0);
        });
        says("0 the place where the driver is, or was last, 1 how many stops, 2 the minute at which the next one is "
                + "reached, NONE without, 3 whether FREE (1 or 0)", () -> {
            HailCity x = line(3);
            x.driver(4);
            told(x, 0, 4, 0, HailCity.NONE, 1, 500, 0, 0);
            x.pass(1);
            x.request(5, 6, 60, false);
            x.match();
            told(x, 0, 4, 2, 4, 0, 500, 0, 0);
            x.pass(2);
            due("was last, though under way", x.driverIs(0, 0), 4);
            x.pass(1);
            told(x, 0, 5, 1, 7, 0, 500, 3, 0);
            x.pass(3);
            told(x, 0, 6, 0, HailCity.NONE, 1, 500, 6, 1);
            x.rest(0, true);
            due("on a break", x.driverIs(0, 3), 0);
        });
        says("4 the rating, 5 minutes that count, 6 how many requests were DONE", () -> {
            HailCity x = Cities.shuttle();
            told(x, 0, 1, 0, HailCity.NONE, 1, 500, 0, 0);
            Cities.rides(x, 3);
            Cities.rate(x, 0, 5, 4, 4);
            told(x, 0, 2, 0, HailCity.NONE, 1, 433, 3, 3);
            x.pass(1);
            x.request(1, 2, 60, false);
            x.match();
            x.cancel(3);
            x.pass(1);
            told(x, 0, 1, 0, HailCity.NONE, 1, 433, 3, 3);
        });
        says("Throws `IndexOutOfBoundsException` if there is no such driver", () -> {
            HailCity x = line(2);
            refusesOutside("driver of none", 0, -1, driver -> x.driverIs(driver, 0), BOUNDS);
            for (int i = 0; i < 8; i++) {
                int next = i + 1;
                x.driver(1);
                dueThrow("driver " + next, () -> x.driverIs(next, 0), BOUNDS);
            }
            refusesOutside("driver of 8", 0, 7, driver -> x.driverIs(driver, 0), BOUNDS);
        });
        says("Throws `IllegalArgumentException` if what is out of range", () -> {
            HailCity x = Cities.busy();
            refusesOutside("what", 0, 6, what -> x.driverIs(0, what), ARGUMENT);
        });
    }

    private static void told(HailCity x, int driver, int... want) {
        for (int what = 0; what <= 6; what++) {
            due("driverIs(" + driver + ", " + what + ")", x.driverIs(driver, what), want[what]);
        }
    }

    private static void stop() {
        section("Promise 20: stop");
        says("Tells of a stop of a driver.", () -> {
            HailCity x = Cities.busy();
            row("to let out, in and out", x, 0, 9, 102, 9, 3, 8, 103);
            row("for nobody", x, 1, 5, HailCity.NONE);
            row("none", x, 2);
        });
        says("`stop`: 0 for the next one", () -> {
            HailCity x = Cities.busy();
            due("the next one", x.stop(4, 0, false), 5);
            x.pass(3);
            due("then the one behind it", x.stop(4, 0, false), 6);
        });
        says("`isWhom`: whether its request is asked for, otherwise its place", () -> {
            HailCity x = Cities.busy();
            due("its request", x.stop(0, 2, true), 103);
            due("its place", x.stop(0, 2, false), 8);
        });
        says("Returns the place; or the request, and 100 more, if its rider is let out, NONE for nobody", () -> {
            HailCity x = line(2);
            x.driver(2);
            for (int i = 0; i < 59; i++) {
                x.request(1, 2, 1, false);
            }
            x.pass(1);
            x.request(1, 0, 60, false);
            x.match();
            row("the highest request, the lowest place", x, 0, 1, 59, 0, 159);
            x.cancel(59);
            row("for nobody", x, 0, 1, HailCity.NONE);
            HailCity y = line(2);
            y.driver(1);
            y.request(2, 9, 60, false);
            y.match();
            row("the lowest request, the highest place", y, 0, 2, 0, 9, 100);
        });
        says("NONE behind the last stop.", () -> {
            HailCity x = Cities.busy();
            for (int stop : new int[] {3, 4, 7, 8, 9, 100, Integer.MAX_VALUE}) {
                due("its place", x.stop(0, stop, false), HailCity.NONE);
                due("whom", x.stop(0, stop, true), HailCity.NONE);
            }
            due("without stops, its place", x.stop(2, 0, false), HailCity.NONE);
            due("without stops, whom", x.stop(2, 0, true), HailCity.NONE);
            x.pass(3);
            due("behind the one that is left", x.stop(4, 1, false), HailCity.NONE);
            due("behind it, whom", x.stop(4, 1, true), HailCity.NONE);
        });
        says("Throws `IndexOutOfBoundsException` if there is no such driver, or stop is below 0", () -> {
            HailCity x = Cities.busy();
            refusesOutside("driver", 0, 5, driver -> x.stop(driver, 0, false), BOUNDS);
            refusesOutside("driver, whom", 0, 5, driver -> x.stop(driver, 0, true), BOUNDS);
            for (int driver = 0; driver < 6; driver += 2) {
                int asked = driver;
                dueThrow("stop -1", () -> x.stop(asked, -1, false), BOUNDS);
                dueThrow("stop -1, whom", () -> x.stop(asked, -1, true), BOUNDS);
                dueThrow("the lowest int", () -> x.stop(asked, Integer.MIN_VALUE, true), BOUNDS);
            }
        });
    }

    private static void pay() {
        section("Promise 21: pay");
        says("Returns the pay of a driver.", () -> {
            HailCity x = Cities.busy();
            due("one DONE of 380", x.pay(0), 285);
            due("another of 380", x.pay(1), 285);
            due("none DONE, one minute", x.pay(4), 30);
            due("nothing", x.pay(2), 0);
            HailCity y = line(20);
            y.driver(9);
            for (int i = 0; i < 10; i++) {
                y.request(9, 0, 60, true);
            }
            for (int i = 0; i < 9; i++) {
                y.cancel(i);
            }
            y.match();
            y.pass(120);
            y.pass(60);
            due("the highest price: 75 hundredths of 22500", y.pay(0), 16875);
        });
        says("Throws `IndexOutOfBoundsException` if there is no such driver", () -> {
            HailCity x = line(2);
            refusesOutside("driver of none", 0, -1, driver -> x.pay(driver), BOUNDS);
            for (int i = 0; i < 8; i++) {
                x.driver(1);
            }
            refusesOutside("driver of 8", 0, 7, driver -> x.pay(driver), BOUNDS);
            due("the last one", x.pay(7), 0);
        });
    }

    private static void pass() {
        section("Promise 22: pass");
        says("in each one, as it is over, stops that are reached are done, by drivers, "
                + "then patience is looked at", () -> {
            HailCity x = line(2);
            x.driver(2);
            x.driver(1);
            x.driver(2);
            x.wander(2, 0);
            x.wander(1, 0);
            x.wander(0, 0);
            x.pass(4);
            int[] order = {1, 0, 2};
            for (int i = 0; i < 3; i++) {
                x.request(0, 1, 60, false);
                x.airport();
                due("by minutes, then by drivers, as number " + i, x.requestIs(i, 2), order[i]);
            }
            HailCity y = line(1);
            y.driver(3);
            y.request(4, 6, 60, true);
            y.request(5, 4, 3, false);
            y.match();
            y.pass(120);
            due("within one call, each in its minute", y.requestIs(0, 4), 3);
            due("patience in its minute", y.requestIs(1, 0), HailCity.GONE);
            due("minutes that count", y.driverIs(0, 5), 3);
        });
        says("`minutes`: 1 to 120", () -> {
            HailCity x = line(2);
            due("the fewest", x.pass(1), 1);
            due("the most", x.pass(120), 121);
        });
        says("Returns the minute then.", () -> {
            HailCity x = line(2);
            due("at first", x.pass(7), 7);
            due("then", x.pass(5), 12);
        });
        says("Throws `IllegalArgumentException` if minutes is out of range", () -> {
            HailCity x = line(2);
            refusesOutside("minutes", 1, 120, minutes -> x.pass(minutes), ARGUMENT);
            HailCity late = Cities.atTheLastMinute();
            refusesOutside("minutes at 20000", 1, 120, minutes -> late.pass(minutes), ARGUMENT);
            due("no minute passed", x.pass(1), 1);
        });
        says("Throws `IllegalStateException` if it would be above 20000", () -> {
            HailCity x = line(2);
            for (int i = 0; i < 166; i++) {
                x.pass(120);
            }
            dueThrow("20001 by 81", () -> x.pass(81), STATE);
            dueThrow("20040 by 120", () -> x.pass(120), STATE);
            due("no minute passed", x.pass(1), 19921);
            dueThrow("20001 by 80", () -> x.pass(80), STATE);
            due("just 20000", x.pass(79), 20000);
            dueThrow("20001 by 1", () -> x.pass(1), STATE);
            dueThrow("20120 by 120", () -> x.pass(120), STATE);
        });
    }
}
