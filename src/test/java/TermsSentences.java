import java.io.IOException;
import java.util.function.IntUnaryOperator;

/** The sentences ahead of the promises: what it is, the terms, streets, drivers, requests and prices. */
public final class TermsSentences extends Sentences {
    public static void main(String[] args) throws IOException {
        open(args);
        whatItIs();
        terms();
        refusedCallsChangeNothing();
        divisions();
        streets();
        drivers();
        rowsOfStops();
        requests();
        prices();
        heights();
        patience();
        brokenPromises();
        endSection();
        finish("TermsSentences");
    }

    // ---- What it is

    private static void whatItIs() {
        section("What it is");
        namesNoBoundary("Rides for a whole city without a table");
        says("An object is used for at most 512 calls after it has been made", () -> {
            eachOf512Calls("way", call -> 0, (x, call) -> x.way(9, 9));
            eachOf512Calls("cap", call -> call == 0 ? 300 : 100 + (call - 1) % 2, (x, call) -> x.cap(100 + call % 2));
            eachOf512Calls("slow", call -> call == 0 ? 2 : 1 + (call - 1) % 20, (x, call) -> x.slow(0, 1 + call % 20));
            eachOf512Calls("rest", call -> call % 2, (x, call) -> bit(x.rest(0, call % 2 == 0)));
            eachOf512Calls("pass", call -> 39 * (call + 1), (x, call) -> x.pass(39));
            eachOf512Calls("refused", call -> BOUNDS, (x, call) -> answerOf(() -> x.driverIs(1, 0)));
            HailCity full = Cities.full();
            for (int call = 88; call < 511; call++) {
                due("call " + call, full.way(0, 9), 9);
            }
            due("the 512th call on a full city", full.pass(60), 60);
        });
        says("what later calls answer is free", () -> {
            HailCity x = Cities.full();
            int other = 0;
            for (int call = 88; call < 2000; call++) {
                int place = call % 10;
                other += thrownBy(() -> x.pass(60)) == OTHER ? 1 : 0;
                other += thrownBy(() -> x.wander(place % 8, place)) == OTHER ? 1 : 0;
                other += thrownBy(() -> bit(x.rest(place % 8, place == 9))) == OTHER ? 1 : 0;
            }
            due("calls that threw what no method documents", other, 0);
        });
    }

    private interface Call {
        int on(HailCity x, int call);
    }

    /** 510 calls of one kind behind two that make a street and a driver, so that the last one is the 512th. */
    private static void eachOf512Calls(String what, IntUnaryOperator wanted, Call call) {
        HailCity x = new HailCity();
        x.street(0, 1, 2);
        x.driver(0);
        for (int i = 0; i < 510; i++) {
            due(what + ", call " + (i + 3), call.on(x, i), wanted.applyAsInt(i));
        }
    }

    // ---- Terms

    private static void terms() {
        section("Terms");
        says("ways, prices, promises, stops, states, sums and pay can be asked for", () -> {
            HailCity x = Cities.busy();
            String before = Cities.picture(x);
            due("asked again", bit(Cities.picture(x).equals(before)), 1);
            due("asked and not asked", bit(Cities.sequel(x).equals(Cities.sequel(Cities.busy()))), 1);
        });
        says("A method throws IndexOutOfBoundsException if there is no such place, street, zone, driver "
                + "or request", () -> {
            HailCity x = Cities.busy();
            refusesOutside("place", 0, 9, place -> x.way(place, 0), BOUNDS);
            refusesOutside("street", 0, 8, street -> x.slow(street, 1), BOUNDS);
            refusesOutside("zone", 0, 3, zone -> x.height(zone), BOUNDS);
            refusesOutside("driver", 0, 5, driver -> x.pay(driver), BOUNDS);
            refusesOutside("request", 0, 7, request -> x.requestIs(request, 0), BOUNDS);
        });
        says("IllegalArgumentException if another argument is out of range", () -> {
            HailCity x = Cities.busy();
            refusesOutside("minutes", 1, 20, minutes -> x.slow(0, minutes), ARGUMENT);
            refusesOutside("patience", 1, 60, patience -> x.request(0, 1, patience, true), ARGUMENT);
            refusesOutside("stars", 1, 5, stars -> x.rate(1, stars), ARGUMENT);
            refusesOutside("what", 0, 6, what -> x.driverIs(0, what), ARGUMENT);
        });
        says("and IllegalStateException as it documents", () -> {
            HailCity x = Cities.busy();
            dueThrow("rest with stops", () -> bit(x.rest(0, true)), STATE);
            dueThrow("cancel what is DONE", () -> x.cancel(0), STATE);
            dueThrow("rate again", () -> x.rate(0, 5), STATE);
        });
        says("if several apply, the one that it lists first is thrown", () -> {
            HailCity x = Cities.full();
            dueThrow("street: place, minutes, full", () -> x.street(10, 1, 0), BOUNDS);
            dueThrow("street: other place, minutes, full", () -> x.street(1, -1, 21), BOUNDS);
            dueThrow("street: no such place twice, full", () -> x.street(10, 10, 5), BOUNDS);
            dueThrow("street: the same, full", () -> x.street(3, 3, 5), ARGUMENT);
            dueThrow("street: minutes, full", () -> x.street(3, 4, 21), ARGUMENT);
            dueThrow("slow: street, minutes", () -> x.slow(20, 0), BOUNDS);
            dueThrow("driver: place, full", () -> x.driver(10), BOUNDS);
            x.rest(0, true);
            dueThrow("wander: place, on a break", () -> x.wander(0, -1), BOUNDS);
            dueThrow("request: from, patience, full", () -> x.request(-1, 2, 0, true), BOUNDS);
            dueThrow("request: to, patience, full", () -> x.request(2, 10, 61, true), BOUNDS);
            dueThrow("request: no such place twice, full", () -> x.request(10, 10, 5, true), BOUNDS);
            dueThrow("request: the same, full", () -> x.request(2, 2, 5, true), ARGUMENT);
            dueThrow("request: patience, full", () -> x.request(2, 3, 0, true), ARGUMENT);
            dueThrow("request: patience, no way", () -> new HailCity().request(2, 3, 61, true), ARGUMENT);
            dueThrow("request: the same, no way", () -> new HailCity().request(2, 2, 61, true), ARGUMENT);
            dueThrow("rate: request, stars", () -> x.rate(60, 6), BOUNDS);
            dueThrow("rate: stars, not DONE", () -> x.rate(0, 0), ARGUMENT);
            dueThrow("requestIs: request, what", () -> x.requestIs(60, 7), BOUNDS);
            dueThrow("driverIs: driver, what", () -> x.driverIs(8, -1), BOUNDS);
            HailCity late = Cities.atTheLastMinute();
            dueThrow("pass: minutes, above 20000", () -> late.pass(121), ARGUMENT);
        });
        says("Time goes by minutes, from 0 on, to 20000", () -> {
            HailCity x = line(1);
            x.driver(1);
            due("a minute counted from 0", x.wander(0, 2), 1);
            due("the first minute", x.pass(1), 1);
            HailCity late = Cities.atTheLastMinute();
            dueThrow("20001", () -> late.pass(1), STATE);
            due("a stop may lie behind the last minute", late.wander(0, 5), 20004);
            dueThrow("still 20001", () -> late.pass(1), STATE);
            due("the stop stays", late.driverIs(0, 2), 20004);
            late.request(2, 3, 60, false);
            due("patience may lie behind the last minute", late.requestIs(0, 6), 20060);
        });
    }

    private static void refusedCallsChangeNothing() {
        says("A call that throws changes nothing.", () -> {
            for (Cities.Refused refused : Cities.refusedOnBusy()) {
                changesNothing(refused, Cities.busy(), Cities.busy());
            }
            for (Cities.Refused refused : Cities.refusedOnFull()) {
                changesNothing(refused, Cities.full(), Cities.full());
            }
        });
    }

    private static void changesNothing(Cities.Refused refused, HailCity x, HailCity untouched) {
        for (int i = 0; i < 3; i++) {
            dueThrow(refused.what(), () -> refused.call().on(x), refused.want());
        }
        must(refused.what() + " changed what is asked", Cities.picture(x).equals(Cities.picture(untouched)));
        must(refused.what() + " changed what comes", Cities.sequel(x).equals(Cities.sequel(untouched)));
    }

    private static void divisions() {
        says("Divisions are rounded down.", () -> {
            HailCity x = line(1);
            x.cap(133);
            for (int i = 0; i < 3; i++) {
                x.request(5, 4, 60, false);
            }
            due("a price of 340 at 133 hundredths: 452.2", x.requestIs(2, 1), 452);
            HailCity y = line(5);
            y.driver(1);
            y.request(1, 2, 60, false);
            y.match();
            due("once and a half of 5", y.requestIs(0, 3), 7);
            HailCity z = Cities.shuttle();
            Cities.rides(z, 3);
            due("a rating by 5, 5 and 4: 466.6", Cities.rate(z, 0, 5, 5, 4), 466);
            due("75 hundredths of 425: 318.75", paidFor425(), 318);
        });
        says("money is in cents", () -> due("a pay of 3.18", paidFor425(), 318));
    }

    private static int paidFor425() {
        HailCity x = line(1);
        x.request(5, 4, 60, false);
        x.request(5, 4, 60, false);
        x.cancel(0);
        x.driver(5);
        x.match();
        x.pass(1);
        return x.pay(0);
    }

    // ---- Streets

    private static void streets() {
        section("Streets");
        says("There are the places 0 to 9", () -> {
            HailCity x = line(1);
            for (int place = 0; place <= 9; place++) {
                due("a place", x.way(place, place), 0);
            }
            due("the lowest and the highest", x.way(0, 9), 9);
            x.driver(0);
            due("a driver goes to the highest", x.wander(0, 9), 9);
            due("a request from the highest to the lowest", x.request(9, 0, 1, true), 0);
            refusesOutside("street at", 0, 9, place -> x.street(place, 5, 1), BOUNDS);
            refusesOutside("street to", 0, 9, place -> x.street(5, place, 1), BOUNDS);
            refusesOutside("way from", 0, 9, place -> x.way(place, 5), BOUNDS);
            refusesOutside("way to", 0, 9, place -> x.way(5, place), BOUNDS);
            refusesOutside("driver at", 0, 9, place -> x.driver(place), BOUNDS);
            refusesOutside("wander to", 0, 9, place -> x.wander(0, place), BOUNDS);
            refusesOutside("request from", 0, 9, place -> x.request(place, 5, 1, true), BOUNDS);
            refusesOutside("request to", 0, 9, place -> x.request(5, place, 1, true), BOUNDS);
        });
        says("the place 0 is the airport", () -> {
            HailCity x = line(1);
            x.driver(0);
            x.driver(1);
            x.request(1, 0, 60, false);
            due("not where it goes", x.airport(), 0);
            x.request(0, 1, 60, false);
            due("where it begins", x.airport(), 1);
            due("the driver there", x.requestIs(1, 2), 0);
            due("the other one is left", x.requestIs(0, 0), HailCity.WAITS);
            due("to be matched", x.match(), 1);
            for (int place = 1; place < 10; place++) {
                HailCity y = line(1);
                y.driver(place);
                y.request(place, place - 1, 60, false);
                due("no airport", y.airport(), 0);
                due("matched there", y.match(), 1);
            }
        });
        says("the zone of a place is its number divided by 3", () -> {
            int[] zones = {0, 0, 0, 1, 1, 1, 2, 2, 2, 3};
            for (int place = 0; place < 10; place++) {
                HailCity x = line(1);
                x.request(place, place == 0 ? 1 : place - 1, 60, false);
                for (int zone = 0; zone < 4; zone++) {
                    due("zone " + zone + " of place " + place, x.height(zone), zones[place] == zone ? 125 : 100);
                }
            }
        });
        says("Streets are numbered from 0, at most 20", () -> {
            HailCity x = new HailCity();
            for (int i = 0; i < 20; i++) {
                due("number", x.street(0, 1, 1), i);
            }
            dueThrow("the 21st", () -> x.street(0, 1, 1), STATE);
            dueThrow("the 21st, again", () -> x.street(8, 9, 20), STATE);
            dueThrow("there is no street 20", () -> x.slow(20, 1), BOUNDS);
            due("street 19", x.slow(19, 20), 1);
        });
        says("each between two unlike places", () -> {
            HailCity x = new HailCity();
            for (int place = 0; place < 10; place++) {
                int same = place;
                dueThrow("at both ends " + same, () -> x.street(same, same, 1), ARGUMENT);
            }
            due("none was told", x.street(0, 1, 1), 0);
        });
        says("gone both ways", () -> {
            HailCity x = new HailCity();
            x.street(7, 3, 4);
            due("as told", x.way(7, 3), 4);
            due("the other way", x.way(3, 7), 4);
            x.slow(0, 6);
            due("as told, slow", x.way(7, 3), 6);
            due("the other way, slow", x.way(3, 7), 6);
        });
        says("take so many minutes, 1 to 20, by now", () -> {
            HailCity x = new HailCity();
            refusesOutside("told minutes", 1, 20, minutes -> x.street(0, 1, minutes), ARGUMENT);
            x.street(0, 1, 1);
            x.street(1, 2, 20);
            due("the fewest", x.way(0, 1), 1);
            due("the most", x.way(1, 2), 20);
            refusesOutside("slow minutes", 1, 20, minutes -> x.slow(0, minutes), ARGUMENT);
            x.slow(0, 20);
            x.slow(1, 1);
            due("the most by now", x.way(0, 1), 20);
            due("the fewest by now", x.way(1, 2), 1);
        });
        says("The minutes between two places are those of the shortest way by now.", () -> {
            HailCity x = line(20);
            due("all nine streets of 20 minutes", x.way(0, 9), 180);
            int shortCut = x.street(2, 8, 20);
            due("a short cut", x.way(0, 9), 80);
            due("partly back along the line", x.way(9, 7), 40);
            due("both ways as long", x.way(2, 8), 20);
            x.slow(shortCut, 1);
            due("a shorter cut", x.way(1, 7), 41);
            x.street(2, 8, 2);
            due("a longer street between the same places", x.way(2, 8), 1);
            x.slow(shortCut, 3);
            due("the longer one is the shorter one by now", x.way(2, 8), 2);
            x.slow(shortCut + 1, 4);
            due("and no more", x.way(2, 8), 3);
            for (int over = 0; over < 10; over++) {
                HailCity y = new HailCity();
                int from = (over + 1) % 10;
                int to = (over + 2) % 10;
                y.street(from, over, 3);
                y.street(over, to, 4);
                due("by way of " + over, y.way(from, to), 7);
            }
        });
    }

    // ---- Drivers

    private static void drivers() {
        section("Drivers");
        says("Drivers are numbered from 0, at most 8.", () -> {
            HailCity x = new HailCity();
            dueThrow("none", () -> x.driverIs(0, 0), BOUNDS);
            for (int i = 0; i < 8; i++) {
                int next = i + 1;
                due("number", x.driver(5), i);
                dueThrow("not yet told", () -> x.driverIs(next, 0), BOUNDS);
            }
            dueThrow("the ninth", () -> x.driver(5), STATE);
            dueThrow("there is no driver 8", () -> x.pay(8), BOUNDS);
            due("driver 7", x.driverIs(7, 0), 5);
        });
        says("without stops the driver is at a place, and FREE, if not on a break, nor barred", () -> {
            HailCity x = line(1);
            x.driver(4);
            due("at a place", x.driverIs(0, 0), 4);
            due("FREE", x.driverIs(0, 3), 1);
            x.rest(0, true);
            due("on a break", x.driverIs(0, 3), 0);
            x.rest(0, false);
            due("no more on a break", x.driverIs(0, 3), 1);
            x.wander(0, 5);
            due("with a stop", x.driverIs(0, 3), 0);
            x.pass(1);
            due("without", x.driverIs(0, 3), 1);
            HailCity y = Cities.shuttle();
            Cities.rides(y, 7);
            Cities.rate(y, 0, 1, 1, 1, 1, 1);
            due("barred", y.driverIs(0, 3), 0);
            y.rest(0, true);
            Cities.rate(y, 5, 5, 5);
            due("barred still, and on a break", y.driverIs(0, 3), 0);
            y.rest(0, false);
            due("barred still", y.driverIs(0, 3), 0);
        });
        says("The next stop is reached as many minutes behind the moment", () -> {
            HailCity x = line(4);
            x.driver(1);
            x.pass(7);
            x.request(3, 5, 60, false);
            x.match();
            due("from the moment at which the driver is sent", x.driverIs(0, 2), 7 + 8);
            x.slow(1, 20);
            x.slow(2, 1);
            x.street(1, 3, 1);
            due("by the streets of that moment", x.driverIs(0, 2), 15);
            x.pass(7);
            due("a minute ahead of it", x.driverIs(0, 1), 2);
            x.slow(3, 9);
            x.pass(1);
            due("reached", x.driverIs(0, 1), 1);
            due("from the moment at which it came to the one ahead", x.driverIs(0, 2), 15 + 13);
            x.slow(3, 1);
            due("not by those of later moments", x.driverIs(0, 2), 28);
            x.pass(12);
            due("not reached yet", x.requestIs(0, 0), HailCity.ABOARD);
            x.pass(1);
            due("reached then", x.requestIs(0, 4), 28);
        });
        says("A stop at the place where the driver is, is reached at once, within the call", () -> {
            HailCity x = line(4);
            x.driver(6);
            x.driver(0);
            x.request(6, 8, 60, false);
            x.request(0, 1, 60, false);
            due("within match", x.match(), 1);
            due("ABOARD by match", x.requestIs(0, 0), HailCity.ABOARD);
            row("one stop left", x, 0, 8, 100);
            due("that is reached", x.driverIs(0, 2), 8);
            due("within airport", x.airport(), 1);
            due("ABOARD by airport", x.requestIs(1, 0), HailCity.ABOARD);
            row("one stop left at the airport", x, 1, 1, 101);
            HailCity y = line(4);
            y.driver(6);
            y.request(7, 8, 60, false);
            y.match();
            due("at another place not at once", y.requestIs(0, 0), HailCity.SENT);
        });
        says("stops that are reached at one minute are done one behind the other", () -> {
            HailCity x = line(2);
            x.driver(2);
            for (int i = 0; i < 3; i++) {
                x.request(3, 4, 60, true);
            }
            x.match();
            x.share();
            due("all in one row", x.driverIs(0, 1), 6);
            x.pass(2);
            row("three let in at one minute", x, 0, 4, 102, 4, 101, 4, 100);
            due("the minute of the next", x.driverIs(0, 2), 4);
            x.pass(2);
            due("three let out at one minute", x.driverIs(0, 6), 3);
            due("FREE", x.driverIs(0, 3), 1);
            due("the first", x.requestIs(0, 4), 4);
            due("the second", x.requestIs(1, 4), 4);
            due("the third", x.requestIs(2, 4), 4);
        });
    }

    private static void rowsOfStops() {
        says("A driver has a row of stops, each at a place, to let in a rider, to let out one, or for nobody", () -> {
            HailCity x = line(2);
            x.driver(2);
            row("no stops", x, 0);
            due("no next minute", x.driverIs(0, 2), HailCity.NONE);
            for (int i = 0; i < 4; i++) {
                x.request(3, 4, 60, true);
            }
            x.match();
            row("to let in and to let out", x, 0, 3, 0, 4, 100);
            due("three put in", x.share(), 3);
            row("the longest row", x, 0, 3, 0, 3, 3, 3, 2, 3, 1, 4, 103, 4, 102, 4, 101, 4, 100);
            due("behind the last stop", x.stop(0, 8, false), HailCity.NONE);
            x.cancel(3);
            row("for nobody", x, 0, 3, 0, 3, -1, 3, 2, 3, 1, 4, 102, 4, 101, 4, 100);
            for (int i = 0; i < 3; i++) {
                x.cancel(i);
            }
            row("all for nobody", x, 0, 3, -1, 3, -1, 3, -1, 3, -1);
            x.pass(2);
            row("no stops again", x, 0);
            due("there", x.driverIs(0, 0), 3);
        });
    }

    // ---- Requests, prices

    private static void requests() {
        section("Requests, prices");
        says("Requests are numbered from 0, at most 60", () -> {
            HailCity x = line(1);
            dueThrow("none", () -> x.requestIs(0, 0), BOUNDS);
            for (int i = 0; i < 60; i++) {
                due("number", x.request(1, 2, 1, false), i);
                x.cancel(i);
            }
            dueThrow("the 61st, though all are GONE", () -> x.request(1, 2, 1, false), STATE);
            dueThrow("there is no request 60", () -> x.requestIs(60, 0), BOUNDS);
            due("request 59", x.requestIs(59, 0), HailCity.GONE);
        });
        says("from a place to another one", () -> {
            HailCity x = line(1);
            for (int place = 0; place < 10; place++) {
                int same = place;
                dueThrow("to the same place " + same, () -> x.request(same, same, 5, true), ARGUMENT);
            }
            due("none was told", x.request(0, 9, 5, true), 0);
        });
        says("with a patience, 1 to 60 minutes", () -> {
            HailCity x = line(1);
            refusesOutside("patience", 1, 60, patience -> x.request(1, 2, patience, true), ARGUMENT);
            x.pass(3);
            x.request(1, 2, 1, true);
            x.request(1, 2, 60, true);
            due("the least", x.requestIs(0, 6), 4);
            due("the most", x.requestIs(1, 6), 63);
        });
        says("shared or not", () -> {
            HailCity x = line(1);
            x.driver(1);
            x.request(1, 5, 60, true);
            x.match();
            x.request(5, 6, 60, false);
            due("not shared", x.share(), 0);
            x.request(5, 6, 60, true);
            due("shared", x.share(), 1);
        });
    }

    private static void prices() {
        says("The price of it is told at once, and stays", () -> {
            HailCity x = line(2);
            x.request(4, 5, 60, true);
            x.request(4, 5, 3, true);
            due("told at once", x.requestIs(0, 1), 380);
            x.slow(4, 20);
            x.cap(100);
            x.driver(4);
            due("streets, heights and drivers change", x.requestIs(1, 1), 380 * 125 / 100);
            x.match();
            due("SENT", x.requestIs(0, 1), 380);
            x.pass(60);
            due("DONE", x.requestIs(0, 1), 380);
            due("GONE", x.requestIs(1, 1), 475);
        });
        says("300, and 40 for each minute between the places, times the height of the zone where it begins, "
                + "by 100", () -> {
            HailCity x = line(20);
            x.street(0, 2, 1);
            x.request(0, 2, 60, false);
            due("the fewest minutes", x.requestIs(0, 1), 340);
            HailCity y = line(20);
            for (int i = 0; i < 9; i++) {
                y.request(9, 0, 60, false);
            }
            due("the most minutes", y.requestIs(0, 1), 7500);
            due("the most minutes, at 125", y.requestIs(1, 1), 9375);
            due("the most minutes, at 300", y.requestIs(8, 1), 22500);
            y.request(0, 9, 60, false);
            due("the zone where it begins, not where it goes", y.requestIs(9, 1), 7500);
            HailCity z = line(1);
            z.cap(101);
            z.request(3, 4, 60, false);
            z.request(3, 4, 60, false);
            due("340 at 101 hundredths: 343.4", z.requestIs(1, 1), 343);
        });
    }

    private static void heights() {
        says("The height of a zone is 100, and 25 for each request that WAITS and begins there", () -> {
            HailCity x = line(1);
            due("none", x.height(1), 100);
            x.request(3, 9, 60, false);
            due("one", x.height(1), 125);
            x.request(5, 3, 60, false);
            due("two", x.height(1), 150);
            x.request(2, 3, 60, false);
            x.request(6, 5, 60, false);
            due("others begin elsewhere", x.height(1), 150);
            x.cancel(0);
            due("one is GONE", x.height(1), 125);
            x.driver(1);
            x.rest(0, true);
            x.rest(0, false);
            due("a driver elsewhere", x.height(1), 125);
        });
        says("less 25 for each FREE driver there", () -> {
            HailCity x = line(1);
            for (int i = 0; i < 4; i++) {
                x.request(8, 9, 60, false);
            }
            x.driver(6);
            due("one", x.height(2), 175);
            x.driver(8);
            due("two", x.height(2), 150);
            x.driver(5);
            x.driver(9);
            due("others are elsewhere", x.height(2), 150);
            x.rest(0, true);
            due("one is on a break", x.height(2), 175);
            x.wander(1, 7);
            due("one has a stop", x.height(2), 200);
            HailCity y = Cities.shuttle();
            Cities.rides(y, 5);
            for (int i = 0; i < 2; i++) {
                y.request(1, 2, 60, false);
            }
            due("FREE", y.height(0), 125);
            Cities.rate(y, 0, 1, 1, 1, 1, 1);
            due("one is barred", y.height(0), 150);
        });
        says("but at least 100", () -> {
            HailCity x = line(1);
            for (int i = 0; i < 8; i++) {
                x.driver(9);
            }
            due("eight drivers", x.height(3), 100);
            for (int i = 0; i < 8; i++) {
                x.request(9, 8, 60, false);
            }
            due("as many requests", x.height(3), 100);
            x.request(9, 8, 60, false);
            due("one more request", x.height(3), 125);
        });
        says("and at most the cap, 300 at first", () -> {
            HailCity x = line(1);
            for (int i = 0; i < 7; i++) {
                x.request(9, 8, 60, false);
            }
            due("below", x.height(3), 275);
            x.request(9, 8, 60, false);
            due("just the cap", x.height(3), 300);
            x.request(9, 8, 60, false);
            due("above", x.height(3), 300);
            x.driver(9);
            due("nine less one, not the cap less one", x.height(3), 300);
            due("the cap at first", x.cap(299), 300);
            due("a lower cap", x.height(3), 299);
            x.cap(100);
            due("the lowest cap", x.height(3), 100);
        });
        says("it is that ahead of the request", () -> {
            HailCity x = line(1);
            for (int i = 0; i < 3; i++) {
                x.request(1, 2, 60, false);
                due("not with itself", x.requestIs(i, 1), 340 * (100 + 25 * i) / 100);
            }
        });
    }

    private static void patience() {
        says("A request WAITS; it is SENT, if a driver is; ABOARD, DONE, or GONE", () -> {
            HailCity x = line(1);
            x.driver(1);
            x.request(2, 4, 1, false);
            due("WAITS", x.requestIs(0, 0), HailCity.WAITS);
            x.match();
            due("SENT", x.requestIs(0, 0), HailCity.SENT);
            x.pass(1);
            due("ABOARD", x.requestIs(0, 0), HailCity.ABOARD);
            x.pass(1);
            due("ABOARD still", x.requestIs(0, 0), HailCity.ABOARD);
            x.pass(1);
            due("DONE", x.requestIs(0, 0), HailCity.DONE);
            x.pass(60);
            due("DONE still", x.requestIs(0, 0), HailCity.DONE);
            x.request(4, 2, 60, false);
            x.match();
            x.request(2, 4, 60, false);
            x.cancel(2);
            due("GONE", x.requestIs(2, 0), HailCity.GONE);
        });
        says("it is GONE in the minute at which its patience is over, behind the stops of that, "
                + "if it WAITS then", () -> {
            for (int patience = 1; patience <= 60; patience += 59) {
                HailCity x = line(1);
                x.pass(5);
                x.request(2, 3, patience, false);
                for (int i = 1; i < patience; i++) {
                    x.pass(1);
                }
                due("ahead of that minute", x.requestIs(0, 0), HailCity.WAITS);
                x.pass(1);
                due("in that minute", x.requestIs(0, 0), HailCity.GONE);
            }
            HailCity y = line(1);
            y.driver(1);
            y.request(3, 4, 2, false);
            y.match();
            y.slow(1, 20);
            y.pass(1);
            due("on the way", y.requestIs(0, 0), HailCity.SENT);
            y.pass(1);
            due("let in just then", y.requestIs(0, 0), HailCity.ABOARD);
            HailCity z = line(2);
            z.driver(1);
            z.request(1, 2, 60, true);
            z.match();
            z.request(2, 3, 2, true);
            due("to be let in just then", z.share(), 1);
            z.pass(2);
            due("let in", z.requestIs(1, 0), HailCity.ABOARD);
            HailCity w = line(2);
            w.driver(1);
            w.request(1, 3, 60, true);
            w.match();
            w.request(3, 4, 4, true);
            w.share();
            w.slow(1, 20);
            w.pass(3);
            w.request(9, 8, 1, true);
            w.pass(1);
            due("SENT is waited for", w.requestIs(1, 0), HailCity.ABOARD);
            due("who WAITS is not", w.requestIs(2, 0), HailCity.GONE);
        });
    }

    /** Driver 0 at 1 is sent to let in at 2 and to let out at 3; told to take 1 and 6 minutes: promise 10. */
    private static HailCity sentTo(int minutesThen) {
        HailCity x = new HailCity();
        x.street(1, 2, 1);
        x.street(2, 3, 6);
        x.driver(1);
        x.request(2, 3, 60, false);
        x.match();
        x.slow(1, minutesThen);
        return x;
    }

    private static void brokenPromises() {
        says("its promise is that minute, and the minutes between its places by now, once and a half", () -> {
            HailCity x = sentTo(20);
            due("by the minutes then", x.requestIs(0, 3), 1 + 9);
            x.pass(1);
            due("not by later ones", x.requestIs(0, 3), 10);
            for (int minutes = 1; minutes <= 20; minutes++) {
                HailCity y = new HailCity();
                y.street(1, 2, minutes);
                y.driver(1);
                y.pass(2);
                y.request(1, 2, 60, false);
                y.match();
                due("let in at once, of " + minutes, y.requestIs(0, 3), 2 + minutes + minutes / 2);
            }
            HailCity w = line(2);
            w.request(2, 3, 60, false);
            w.slow(2, 20);
            w.driver(1);
            w.match();
            due("by those when it is SENT, not when it was told", w.requestIs(0, 3), 2 + 30);
            HailCity z = line(20);
            z.driver(0);
            z.request(9, 0, 60, false);
            due("too far", z.match(), 0);
            z.driver(9);
            z.match();
            due("the longest way", z.requestIs(0, 3), 270);
        });
        says("It is broken, if its rider is let out later than that.", () -> {
            for (int minutes = 8; minutes <= 11; minutes++) {
                HailCity x = sentTo(minutes);
                x.pass(60);
                due("let out", x.requestIs(0, 4), 1 + minutes);
                due("broken, as its promise is 10", x.requestIs(0, 5), minutes > 9 ? 1 : 0);
            }
            HailCity y = sentTo(20);
            y.pass(20);
            due("late, but not let out", y.requestIs(0, 5), 0);
            y.pass(1);
            due("let out late", y.requestIs(0, 5), 1);
            HailCity z = sentTo(20);
            z.cancel(0);
            z.pass(60);
            due("never let out", z.requestIs(0, 5), 0);
        });
    }
}
