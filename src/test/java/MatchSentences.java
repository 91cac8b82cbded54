import java.io.IOException;

/** The sentences ahead of the promises on matches, shared rides, and what is cancelled, barred or paid. */
public final class MatchSentences extends Sentences {
    public static void main(String[] args) throws IOException {
        open(args);
        atTheAirport();
        whoIsMatched();
        whichMatch();
        whoTakesOneMore();
        whereInTheRow();
        promisesKept();
        whichRow();
        cancelled();
        rated();
        barred();
        paid();
        constants();
        endSection();
        finish("MatchSentences");
    }

    // ---- Matches

    private static void atTheAirport() {
        section("Matches");
        says("At the airport requests that WAIT, by numbers, are given", () -> {
            HailCity x = line(1);
            due("none", x.airport(), 0);
            for (int i = 0; i < 3; i++) {
                x.request(0, 1, 60, false);
            }
            x.request(1, 0, 60, false);
            x.cancel(0);
            due("no drivers", x.airport(), 0);
            x.driver(0);
            due("one driver", x.airport(), 1);
            due("GONE is left out", x.requestIs(0, 0), HailCity.GONE);
            due("the lowest that WAITS", x.requestIs(1, 0), HailCity.ABOARD);
            due("the next one is left", x.requestIs(2, 0), HailCity.WAITS);
            x.driver(0);
            x.driver(0);
            due("more drivers than requests", x.airport(), 1);
            due("the next one", x.requestIs(2, 2), 1);
            due("who begins elsewhere is left", x.requestIs(3, 0), HailCity.WAITS);
            due("none is left there", x.airport(), 0);
            HailCity y = line(1);
            for (int i = 0; i < 8; i++) {
                y.driver(0);
            }
            for (int i = 0; i < 9; i++) {
                y.request(0, 1, 60, false);
            }
            due("more than 5 WAIT there", y.airport(), 8);
            due("the last one", y.requestIs(8, 0), HailCity.WAITS);
        });
        says("to the drivers who are FREE there", () -> {
            HailCity x = line(1);
            x.driver(1);
            x.driver(0);
            x.driver(0);
            x.rest(1, true);
            x.wander(2, 1);
            x.request(0, 1, 60, false);
            due("elsewhere, on a break, under way", x.airport(), 0);
            x.rest(1, false);
            due("no more on a break", x.airport(), 1);
            due("its driver", x.requestIs(0, 2), 1);
            HailCity y = sixRidesAtTheAirport();
            Cities.rate(y, 0, 1, 1, 1, 1, 1);
            y.request(0, 1, 60, false);
            due("barred", y.airport(), 0);
        });
        says("those first who have been FREE there for the longest time, by the order in which they became so", () -> {
            HailCity x = line(1);
            x.driver(1);
            x.driver(0);
            x.driver(0);
            x.wander(0, 0);
            x.pass(1);
            x.driver(0);
            x.rest(1, true);
            x.rest(1, false);
            x.rest(2, false);
            int[] order = {2, 0, 3, 1};
            for (int i = 0; i < 4; i++) {
                x.request(0, 1, 60, false);
                x.airport();
                due("given as number " + i, x.requestIs(i, 2), order[i]);
            }
            x.pass(1);
            x.wander(3, 0);
            x.wander(2, 0);
            x.wander(0, 0);
            x.pass(1);
            x.wander(1, 0);
            x.pass(1);
            int[] later = {0, 2, 3, 1};
            for (int i = 0; i < 4; i++) {
                x.request(0, 1, 60, false);
                x.airport();
                due("at one minute by drivers, as number " + i, x.requestIs(4 + i, 2), later[i]);
            }
            HailCity y = sixRidesAtTheAirport();
            Cities.rate(y, 0, 4, 4, 3, 3, 3);
            y.driver(0);
            due("barred no more", y.rate(5, 4), 350);
            y.driver(0);
            int[] last = {1, 0, 2};
            for (int i = 0; i < 3; i++) {
                y.request(0, 1, 60, false);
                y.airport();
                due("who was barred, as number " + i, y.requestIs(6 + i, 2), last[i]);
            }
            HailCity z = sixRidesAtTheAirport();
            z.driver(0);
            Cities.rate(z, 0, 4, 4, 4, 4, 4, 4);
            z.request(0, 1, 60, false);
            z.airport();
            due("who was rated, and not barred, stays ahead", z.requestIs(6, 2), 0);
        });
    }

    /** Driver 0, at the airport, has done six rides to 1 and back. */
    private static HailCity sixRidesAtTheAirport() {
        HailCity x = new HailCity();
        x.street(0, 1, 1);
        x.driver(0);
        for (int i = 0; i < 6; i++) {
            x.request(i % 2, 1 - i % 2, 60, false);
            x.airport();
            x.match();
            x.pass(1);
        }
        return x;
    }

    private static void whoIsMatched() {
        says("A match gives all others that WAIT, at most 5, to FREE drivers", () -> {
            HailCity x = line(1);
            for (int i = 0; i < 8; i++) {
                x.driver(1);
            }
            due("none", x.match(), 0);
            for (int i = 0; i < 6; i++) {
                x.request(0, 1, 60, false);
            }
            for (int i = 0; i < 5; i++) {
                x.request(1, 2, 60, false);
            }
            due("5, and 6 at the airport", x.best(), 50000);
            due("5 anew", x.bestAnew(), 50000);
            x.request(1, 2, 60, false);
            dueThrow("6, best", () -> x.best(), STATE);
            dueThrow("6, bestAnew", () -> x.bestAnew(), STATE);
            dueThrow("6, match", () -> x.match(), STATE);
            x.cancel(8);
            due("5 again", x.match(), 5);
            due("none any more", x.match(), 0);
            for (int i = 0; i < 6; i++) {
                due("the airport's WAIT", x.requestIs(i, 0), HailCity.WAITS);
            }
            HailCity y = line(1);
            for (int i = 0; i < 6; i++) {
                y.request(1, 2, i == 3 ? 1 : 60, false);
            }
            dueThrow("6, and no driver", () -> y.match(), STATE);
            y.pass(1);
            due("5, and no driver", y.match(), 0);
        });
        says("wherever these are, each one to another", () -> {
            HailCity x = line(1);
            x.driver(0);
            x.request(9, 8, 60, false);
            x.request(9, 8, 60, false);
            due("from the airport, one", x.best(), 9991);
            due("from the airport, one, anew", x.bestAnew(), 9991);
            due("given", x.match(), 1);
            due("not both to one", x.requestIs(1, 0), HailCity.WAITS);
            x.driver(9);
            x.rest(1, true);
            due("on a break", x.match(), 0);
            x.rest(1, false);
            due("to another", x.match(), 1);
        });
        says("to whom there is a way", () -> {
            HailCity x = new HailCity();
            x.street(1, 2, 1);
            x.street(3, 4, 1);
            x.driver(3);
            x.request(1, 2, 60, false);
            due("no way", x.best(), 0);
            due("no way, anew", x.bestAnew(), 0);
            due("nobody", x.match(), 0);
            x.street(2, 3, 1);
            due("a way", x.best(), 9998);
            due("a way, anew", x.bestAnew(), 9998);
            due("given", x.match(), 1);
        });
        says("before their patience is over, or just then", () -> {
            for (int patience = 8; patience <= 10; patience++) {
                HailCity x = line(3);
                x.driver(1);
                x.pass(4);
                x.request(4, 5, patience, false);
                due("9 minutes, patience " + patience, x.best(), patience < 9 ? 0 : 9991);
                due("anew", x.bestAnew(), patience < 9 ? 0 : 9991);
                due("given", x.match(), patience < 9 ? 0 : 1);
                x.pass(9);
                due("then", x.requestIs(0, 0), patience < 9 ? HailCity.GONE : HailCity.ABOARD);
            }
        });
        says("A driver to whom a request is given is sent to its place, and then to where it goes.", () -> {
            HailCity x = line(2);
            x.driver(5);
            x.pass(1);
            x.request(3, 7, 60, false);
            x.match();
            row("both stops", x, 0, 3, 0, 7, 100);
            due("the first one", x.driverIs(0, 2), 5);
            due("its promise", x.requestIs(0, 3), 5 + 12);
            x.pass(4);
            row("then", x, 0, 7, 100);
            x.pass(8);
            due("let out", x.requestIs(0, 4), 13);
        });
    }

    private static void whichMatch() {
        says("as many as can be, with the least sum of these minutes", () -> {
            HailCity x = line(2);
            x.driver(3);
            x.driver(8);
            x.request(3, 2, 60, false);
            x.request(4, 2, 2, false);
            due("two, though one is nearer to the first", x.best(), 20000 - 2 - 10);
            due("two, anew", x.bestAnew(), 20000 - 2 - 10);
            due("given", x.match(), 2);
            due("the far one", x.requestIs(0, 2), 1);
            due("the only one", x.requestIs(1, 2), 0);
            HailCity y = line(1);
            y.driver(5);
            y.driver(2);
            y.request(3, 4, 60, false);
            y.request(6, 7, 60, false);
            due("the least sum", y.best(), 20000 - 2);
            due("the least sum, anew", y.bestAnew(), 20000 - 2);
            y.match();
            due("not the lowest driver", y.requestIs(0, 2), 1);
            HailCity z = line(1);
            z.driver(9);
            z.driver(5);
            z.driver(1);
            z.request(6, 7, 60, false);
            due("the nearest of three", z.best(), 9999);
            due("the nearest of three, anew", z.bestAnew(), 9999);
            z.match();
            due("the nearest", z.requestIs(0, 2), 1);
        });
        says("of several ways the one in which the lowest request has the lowest driver", () -> {
            HailCity x = line(1);
            x.driver(6);
            x.driver(4);
            x.request(5, 9, 60, false);
            x.match();
            due("both as near", x.requestIs(0, 2), 0);
            HailCity y = line(1);
            y.driver(7);
            y.driver(5);
            y.request(2, 9, 60, false);
            y.request(3, 9, 60, false);
            y.match();
            due("both ways of one sum", y.requestIs(0, 2), 0);
            due("the other", y.requestIs(1, 2), 1);
        });
        says("none being above all", () -> {
            HailCity x = line(1);
            x.driver(4);
            x.request(5, 9, 60, false);
            x.request(3, 9, 60, false);
            due("one driver", x.match(), 1);
            due("the lowest request has it", x.requestIs(0, 2), 0);
            due("the next has none", x.requestIs(1, 2), HailCity.NONE);
            HailCity y = line(1);
            for (int i = 0; i < 7; i++) {
                y.driver(1);
                y.rest(i, true);
            }
            y.driver(1);
            y.request(2, 9, 60, false);
            y.request(2, 9, 60, false);
            y.match();
            due("the highest driver is below none", y.requestIs(0, 2), 7);
        });
        says("then the next one, and so on", () -> {
            HailCity x = line(1);
            for (int i = 0; i < 8; i++) {
                x.driver(2);
            }
            for (int i = 0; i < 5; i++) {
                x.request(3, 9, 60, false);
            }
            x.match();
            for (int i = 0; i < 5; i++) {
                due("request " + i, x.requestIs(i, 2), i);
            }
            HailCity y = line(1);
            y.driver(4);
            y.driver(2);
            y.driver(4);
            y.request(2, 9, 60, false);
            y.request(3, 9, 60, false);
            y.match();
            due("the least sum for the first", y.requestIs(0, 2), 1);
            due("the lowest driver for the next", y.requestIs(1, 2), 0);
            HailCity z = line(1);
            z.driver(4);
            z.driver(4);
            z.request(4, 9, 60, false);
            z.request(5, 9, 60, false);
            z.request(3, 9, 60, false);
            z.match();
            due("the lowest of three", z.requestIs(0, 2), 0);
            due("the next of three", z.requestIs(1, 2), 1);
            due("none is left for the third", z.requestIs(2, 2), HailCity.NONE);
        });
    }

    // ---- To share

    /** Driver 0 at 1 has one rider, of a shared request, to let out at 5; each street takes 2 minutes. */
    private static HailCity oneRider() {
        HailCity x = line(2);
        x.driver(1);
        x.request(1, 5, 60, true);
        x.match();
        return x;
    }

    private static void whoTakesOneMore() {
        says("To share, requests that WAIT, and are shared, go by numbers", () -> {
            HailCity x = oneRider();
            due("none WAITS", x.share(), 0);
            x.request(5, 6, 60, false);
            due("not shared", x.share(), 0);
            x.request(5, 6, 60, true);
            due("shared", x.share(), 1);
            due("SENT already", x.share(), 0);
            x.request(5, 6, 60, true);
            x.cancel(3);
            due("GONE", x.share(), 0);
            x.request(0, 1, 60, true);
            x.request(5, 6, 60, true);
            x.request(5, 6, 60, true);
            due("two more", x.share(), 2);
            due("the lowest, though it is far", x.requestIs(4, 2), 0);
            due("the next", x.requestIs(5, 2), 0);
            due("no place is left for the highest", x.requestIs(6, 0), HailCity.WAITS);
            HailCity y = line(2);
            y.driver(1);
            y.request(0, 1, 60, true);
            y.request(1, 0, 60, true);
            y.match();
            due("number 0, at the airport", y.share(), 1);
            row("behind the next one", y, 0, 0, 101, 0, 0, 1, 100);
        });
        says("of all drivers not barred", () -> {
            HailCity x = Cities.shuttle();
            Cities.rides(x, 7);
            x.request(2, 1, 60, true);
            x.match();
            x.request(1, 2, 60, true);
            due("barred", Cities.rate(x, 0, 3, 3, 3, 3, 3), 300);
            due("nobody", x.share(), 0);
            due("barred still", Cities.rate(x, 5, 5), 333);
            due("nobody still", x.share(), 0);
            due("not barred", Cities.rate(x, 6, 5), 357);
            due("put in", x.share(), 1);
        });
        says("who have stops for one to three riders", () -> {
            HailCity x = line(2);
            x.driver(1);
            x.request(1, 5, 60, true);
            due("no riders", x.share(), 0);
            x.match();
            for (int riders = 1; riders <= 3; riders++) {
                x.request(5, 6, 60, true);
                due("riders: " + riders, x.share(), 1);
            }
            x.request(5, 6, 60, true);
            due("four riders", x.share(), 0);
            x.pass(8);
            due("three riders, when one is let out", x.share(), 1);
        });
        says("all of shared requests", () -> {
            HailCity x = line(2);
            x.driver(1);
            x.request(1, 5, 60, false);
            x.match();
            x.request(5, 6, 60, true);
            due("ABOARD, and not shared", x.share(), 0);
            HailCity y = line(2);
            y.driver(1);
            y.request(2, 5, 60, false);
            y.match();
            y.request(5, 6, 60, true);
            due("SENT, and not shared", y.share(), 0);
        });
        says("those let in or to be let in", () -> {
            HailCity x = line(2);
            x.driver(1);
            x.request(2, 5, 60, true);
            x.match();
            x.request(2, 6, 60, true);
            due("one to be let in", x.share(), 1);
            x.pass(2);
            due("both let in", x.driverIs(0, 1), 2);
            x.request(5, 6, 60, true);
            due("two let in", x.share(), 1);
            x.request(5, 6, 60, true);
            due("two let in, and one to be let in", x.share(), 1);
            x.request(5, 6, 60, true);
            due("two let in, and two to be let in", x.share(), 0);
        });
        says("none for nobody", () -> {
            HailCity x = oneRider();
            x.request(5, 6, 60, true);
            x.share();
            x.request(5, 7, 60, true);
            x.share();
            x.cancel(1);
            x.request(5, 8, 60, true);
            due("a stop for nobody behind", x.share(), 0);
            x.pass(7);
            due("the next one is not done", x.share(), 0);
            x.pass(1);
            row("all done at one minute", x, 0, 7, 102);
            due("none for nobody any more", x.share(), 1);
            HailCity y = line(2);
            y.driver(1);
            y.wander(0, 5);
            y.request(5, 6, 60, true);
            due("only for nobody", y.share(), 0);
        });
    }

    private static void whereInTheRow() {
        says("a stop to let in, and one behind it to let out, are put into the row, "
                + "neither ahead of the next one", () -> {
            HailCity x = oneRider();
            x.request(2, 3, 60, true);
            due("on the way", x.share(), 1);
            row("behind the next one all the same", x, 0, 5, 100, 2, 1, 3, 101);
            due("the next one stays", x.driverIs(0, 2), 8);
            HailCity y = line(2);
            y.driver(1);
            y.request(2, 6, 60, true);
            y.match();
            y.request(3, 5, 60, true);
            y.share();
            row("both between two", y, 0, 2, 0, 3, 1, 5, 101, 6, 100);
            HailCity z = line(2);
            z.driver(1);
            z.request(2, 4, 60, true);
            z.match();
            z.request(2, 5, 60, true);
            z.share();
            row("behind the next one at the same place", z, 0, 2, 0, 2, 1, 4, 100, 5, 101);
        });
        says("By the minutes of now all stops behind the next one have new times", () -> {
            HailCity x = oneRider();
            for (int i = 1; i < 5; i++) {
                x.slow(i, 20);
            }
            x.slow(5, 7);
            x.request(5, 6, 60, true);
            due("put in", x.share(), 1);
            due("the next one stays", x.driverIs(0, 2), 8);
            due("by the minutes of now", x.requestIs(1, 3), 8 + 10);
            x.slow(5, 1);
            x.request(6, 7, 60, true);
            x.share();
            due("by other minutes then", x.requestIs(2, 3), 8 + 1 + 3);
            due("what was told stays", x.requestIs(1, 3), 18);
            HailCity y = new HailCity();
            y.street(1, 2, 1);
            y.street(3, 4, 1);
            y.driver(1);
            y.request(1, 2, 60, true);
            y.match();
            y.request(3, 4, 60, true);
            due("none without a way", y.share(), 0);
            y.street(2, 3, 20);
            due("by a way of now", y.share(), 1);
        });
    }

    private static void promisesKept() {
        says("the rider has to be let in before the patience is over, or just then", () -> {
            for (int patience = 9; patience <= 11; patience++) {
                HailCity x = line(2);
                x.driver(1);
                x.pass(3);
                x.request(1, 6, 60, true);
                x.match();
                x.request(6, 5, patience, true);
                due("10 minutes, patience " + patience, x.share(), patience < 10 ? 0 : 1);
            }
            HailCity y = line(2);
            y.driver(1);
            y.request(3, 1, 60, true);
            y.match();
            y.request(1, 2, 7, true);
            due("8 minutes off behind the last stop", y.share(), 0);
            y.request(2, 1, 6, true);
            due("6 minutes off between the stops", y.share(), 1);
            row("on the way", y, 0, 3, 0, 2, 2, 1, 102, 1, 100);
        });
        says("and be let out by the promise that comes of that", () -> {
            row("just then", twoOfDifferentEnds(4), 0, 3, 100, 3, 2, 1, 101, 6, 102);
            row("a minute later", twoOfDifferentEnds(3), 0, 3, 100, 1, 101, 3, 2, 6, 102);
        });
        says("all others by theirs", () -> {
            row("just then", twoFromOnePlace(4), 0, 2, 0, 2, 1, 4, 101, 3, 100);
            row("a minute later", twoFromOnePlace(3), 0, 2, 0, 3, 100, 2, 1, 4, 101);
            for (int minutes = 2; minutes <= 4; minutes++) {
                HailCity x = line(2);
                x.driver(1);
                x.request(2, 3, 60, true);
                x.match();
                x.slow(2, minutes);
                x.request(3, 4, 60, true);
                due("promised 5, by now " + (2 + minutes), x.share(), minutes <= 3 ? 1 : 0);
            }
            HailCity y = line(2);
            y.slow(7, 20);
            y.street(2, 8, 1);
            y.driver(1);
            y.request(2, 6, 60, true);
            y.match();
            y.request(3, 6, 4, true);
            due("to be let in at 4, just then", y.share(), 1);
            y.request(8, 6, 60, true);
            due("by promises alone, not by the patience of others", y.share(), 1);
            row("let in at 6", y, 0, 2, 0, 8, 2, 3, 1, 6, 102, 6, 101, 6, 100);
            y.pass(6);
            due("SENT is waited for", y.requestIs(1, 0), HailCity.ABOARD);
        });
        says("at the next stop too", () -> {
            for (int minutes = 5; minutes <= 7; minutes++) {
                HailCity x = new HailCity();
                x.street(5, 1, 1);
                x.street(1, 2, 4);
                x.street(2, 3, 1);
                x.driver(5);
                x.request(1, 2, 60, true);
                x.match();
                due("its promise", x.requestIs(0, 3), 7);
                x.slow(1, minutes);
                x.pass(1);
                due("the next one", x.driverIs(0, 2), 1 + minutes);
                x.request(2, 3, 60, true);
                due("reached at " + (1 + minutes), x.share(), minutes < 7 ? 1 : 0);
            }
        });
        says("The promise is told as above, those of others stay.", () -> {
            HailCity x = line(2);
            x.driver(1);
            x.request(2, 6, 60, true);
            x.match();
            x.pass(1);
            x.request(3, 5, 60, true);
            x.share();
            due("let in at 4, and 4 minutes once and a half", x.requestIs(1, 3), 10);
            due("that of the other", x.requestIs(0, 3), 14);
            due("SENT", x.requestIs(1, 0), HailCity.SENT);
            x.pass(3);
            due("let in when told", x.requestIs(1, 0), HailCity.ABOARD);
            x.pass(4);
            due("let out", x.requestIs(1, 4), 8);
        });
    }

    /** Driver 0 is at 2, 5 minutes from 3, with riders to 3 and to 1; rider 2 goes from 3 to 6, so many minutes. */
    private static HailCity twoOfDifferentEnds(int minutes) {
        HailCity x = new HailCity();
        x.street(7, 2, 1);
        x.street(2, 3, 5);
        x.street(3, 1, 1);
        x.street(3, 6, minutes);
        x.driver(7);
        x.request(2, 3, 60, true);
        x.match();
        x.request(2, 1, 60, true);
        x.share();
        x.pass(1);
        row("two riders", x, 0, 3, 100, 1, 101);
        x.request(3, 6, 60, true);
        due("put in", x.share(), 1);
        return x;
    }

    /** Driver 0 lets rider 0 in at 2, to go to 3, so many minutes; rider 1 goes from 2 to 4, a minute off. */
    private static HailCity twoFromOnePlace(int minutes) {
        HailCity x = new HailCity();
        x.street(7, 2, 1);
        x.street(2, 3, minutes);
        x.street(2, 4, 1);
        x.driver(7);
        x.request(2, 3, 60, true);
        x.match();
        x.request(2, 4, 60, true);
        due("put in", x.share(), 1);
        return x;
    }

    private static void whichRow() {
        says("by which the last stop is reached soonest, compared to now with the row as it is, "
                + "so the least more", () -> {
            HailCity x = line(2);
            x.driver(1);
            x.driver(1);
            x.request(1, 3, 60, true);
            x.request(1, 7, 60, true);
            x.match();
            x.request(7, 8, 60, true);
            x.share();
            due("2 more on a longer row, not 10 on a shorter one", x.requestIs(2, 2), 1);
            HailCity y = line(2);
            y.driver(5);
            y.driver(2);
            y.request(5, 6, 60, true);
            y.request(3, 8, 60, true);
            y.match();
            y.request(6, 7, 60, true);
            y.share();
            due("none more, though the last stop is reached later", y.requestIs(2, 2), 1);
            row("on the way", y, 1, 3, 1, 6, 2, 7, 102, 8, 101);
            HailCity z = line(2);
            z.driver(5);
            z.driver(2);
            z.request(5, 6, 60, true);
            z.request(3, 8, 60, true);
            z.match();
            for (int i = 5; i < 8; i++) {
                z.slow(i, 1);
            }
            z.request(6, 7, 60, true);
            z.share();
            due("the row as it is by the minutes of now", z.requestIs(2, 2), 1);
        });
        says("of several the lowest driver", () -> {
            HailCity x = line(2);
            for (int i = 0; i < 3; i++) {
                x.driver(1);
            }
            x.rest(0, true);
            x.request(1, 5, 60, true);
            x.request(1, 5, 60, true);
            x.match();
            x.request(5, 6, 60, true);
            x.share();
            due("as much more", x.requestIs(2, 2), 1);
            HailCity y = line(2);
            y.driver(1);
            y.driver(3);
            y.request(1, 5, 60, true);
            y.request(3, 5, 60, true);
            y.match();
            y.request(5, 6, 60, true);
            y.share();
            due("as much more, though later", y.requestIs(2, 2), 0);
        });
        says("then the lowest place of the stop to let in", () ->
            row("behind the next one, not behind the last",
                    twoOfDifferentEnds(4), 0, 3, 100, 3, 2, 1, 101, 6, 102));
        says("then of that to let out", () -> {
            HailCity x = line(2);
            x.driver(1);
            x.request(3, 4, 60, true);
            x.match();
            x.request(3, 4, 60, true);
            x.share();
            row("ahead of the other at its place", x, 0, 3, 0, 3, 1, 4, 101, 4, 100);
            x.request(3, 4, 60, true);
            x.share();
            row("ahead of both at their place", x, 0, 3, 0, 3, 2, 3, 1, 4, 102, 4, 101, 4, 100);
        });
    }

    // ---- Cancelled, barred, paid

    private static void cancelled() {
        section("Cancelled, barred, paid");
        says("A request that WAITS or is SENT can be cancelled: it is GONE", () -> {
            HailCity x = line(1);
            x.driver(2);
            x.request(3, 4, 60, false);
            x.cancel(0);
            due("WAITS", x.requestIs(0, 0), HailCity.GONE);
            dueThrow("GONE", () -> x.cancel(0), STATE);
            x.request(3, 4, 60, false);
            x.match();
            x.cancel(1);
            due("SENT", x.requestIs(1, 0), HailCity.GONE);
            dueThrow("GONE when SENT", () -> x.cancel(1), STATE);
            x.pass(1);
            x.request(3, 4, 60, false);
            x.match();
            dueThrow("ABOARD", () -> x.cancel(2), STATE);
            x.pass(1);
            dueThrow("DONE", () -> x.cancel(2), STATE);
            x.request(5, 4, 1, false);
            x.pass(1);
            dueThrow("GONE by patience", () -> x.cancel(3), STATE);
        });
        says("the stop to let out goes, that to let in is for nobody then", () -> {
            HailCity x = line(2);
            x.driver(1);
            x.request(3, 5, 60, true);
            x.match();
            x.request(4, 6, 60, true);
            x.share();
            row("as it was", x, 0, 3, 0, 4, 1, 5, 100, 6, 101);
            x.cancel(0);
            row("the first cancelled", x, 0, 3, -1, 4, 1, 6, 101);
            due("the next one stays", x.driverIs(0, 2), 4);
            x.cancel(1);
            row("both cancelled", x, 0, 3, -1, 4, -1);
            x.pass(4);
            row("the driver goes on", x, 0, 4, -1);
            x.pass(2);
            due("to both places", x.driverIs(0, 0), 4);
            due("FREE there", x.driverIs(0, 3), 1);
        });
        says("If it was sent more than 2 minutes ago, 500 are to be paid.", () -> {
            for (int ago = 0; ago <= 4; ago++) {
                HailCity x = line(10);
                x.driver(1);
                x.pass(7);
                x.request(2, 3, 60, false);
                x.pass(3);
                x.match();
                if (ago > 0) {
                    x.pass(ago);
                }
                due("sent minutes ago: " + ago, x.cancel(0), ago > 2 ? 500 : 0);
            }
            HailCity y = line(10);
            y.request(2, 3, 60, false);
            y.pass(59);
            due("never sent", y.cancel(0), 0);
            for (int ago = 2; ago <= 3; ago++) {
                HailCity z = line(10);
                z.driver(1);
                z.request(1, 2, 60, true);
                z.match();
                z.pass(2);
                z.request(2, 3, 60, true);
                z.share();
                z.pass(ago);
                due("shared minutes ago: " + ago, z.cancel(1), ago > 2 ? 500 : 0);
                due("not paid to the driver", z.pay(0), 30 * (2 + ago));
            }
        });
    }

    private static void rated() {
        says("A request that is DONE can be rated, once, by 1 to 5.", () -> {
            HailCity x = Cities.shuttle();
            Cities.rides(x, 5);
            for (int stars = 1; stars <= 5; stars++) {
                int request = stars - 1;
                refusesOutside("stars", 1, 5, bad -> x.rate(request, bad), ARGUMENT);
                due("stars " + stars, x.rate(request, stars), 50 * (stars + 1));
                dueThrow("again", () -> x.rate(request, 5), STATE);
            }
            x.request(2, 1, 60, false);
            dueThrow("WAITS", () -> x.rate(5, 5), STATE);
            x.cancel(5);
            dueThrow("GONE", () -> x.rate(5, 5), STATE);
            HailCity y = line(2);
            y.driver(1);
            y.request(2, 3, 60, false);
            y.match();
            dueThrow("SENT", () -> y.rate(0, 5), STATE);
            y.pass(3);
            dueThrow("ABOARD", () -> y.rate(0, 5), STATE);
            y.pass(1);
            due("DONE", y.rate(0, 5), 500);
        });
        says("the hundredths of the mean of the latest 10, 500 without any", () -> {
            HailCity x = Cities.shuttle();
            due("without any", x.driverIs(0, 4), 500);
            Cities.rides(x, 31);
            due("without any, of rides", x.driverIs(0, 4), 500);
            due("ten", Cities.rate(x, 0, 1, 1, 1, 1, 1, 5, 5, 5, 5, 5), 300);
            due("the 11th", Cities.rate(x, 10, 5), 340);
            due("the 14th", Cities.rate(x, 11, 5, 5, 5), 460);
            due("the 15th", Cities.rate(x, 14, 5), 500);
            due("the 16th", Cities.rate(x, 15, 5), 500);
            due("the 20th", Cities.rate(x, 16, 1, 1, 1, 1), 340);
            due("the 21st", Cities.rate(x, 20, 2), 310);
            due("the 26th", Cities.rate(x, 21, 2, 2, 2, 2, 2), 160);
            due("the 30th", Cities.rate(x, 26, 3, 3, 3, 3), 240);
            due("the 31st", Cities.rate(x, 30, 4), 260);
            HailCity y = Cities.shuttle();
            Cities.rides(y, 2);
            due("the latest rated, not the latest ridden", Cities.rate(y, 1, 1), 100);
            due("both", Cities.rate(y, 0, 2), 150);
        });
    }

    private static void barred() {
        says("with 5 or more, and a rating below 350, the driver is barred", () -> {
            HailCity x = Cities.shuttle();
            Cities.rides(x, 5);
            due("four", Cities.rate(x, 0, 1, 1, 1, 1), 100);
            due("four do not bar", x.driverIs(0, 3), 1);
            due("five", Cities.rate(x, 4, 1), 100);
            due("five bar", x.driverIs(0, 3), 0);
            dueThrow("no wandering", () -> x.wander(0, 1), STATE);
            HailCity y = Cities.shuttle();
            Cities.rides(y, 9);
            due("five of 360", Cities.rate(y, 0, 4, 4, 4, 3, 3), 360);
            due("360 does not bar", y.driverIs(0, 3), 1);
            due("six of 350", Cities.rate(y, 5, 3), 350);
            due("350 does not bar", y.driverIs(0, 3), 1);
            due("nine of 344", Cities.rate(y, 6, 4, 3, 3), 344);
            due("344 bars", y.driverIs(0, 3), 0);
        });
        says("as long as that is so", () -> {
            HailCity x = Cities.shuttle();
            Cities.rides(x, 13);
            Cities.rate(x, 0, 3, 3, 3, 3, 3);
            due("barred", x.driverIs(0, 3), 0);
            due("six of 333", Cities.rate(x, 5, 5), 333);
            due("barred still", x.driverIs(0, 3), 0);
            due("seven of 357", Cities.rate(x, 6, 5), 357);
            due("no more", x.driverIs(0, 3), 1);
            due("eight of 325", Cities.rate(x, 7, 1), 325);
            due("barred again", x.driverIs(0, 3), 0);
            due("ten of 340", Cities.rate(x, 8, 3, 5), 340);
            due("barred by ten", x.driverIs(0, 3), 0);
            due("the earliest left out", Cities.rate(x, 10, 4), 350);
            due("no more, then", x.driverIs(0, 3), 1);
        });
    }

    private static void paid() {
        says("A minute counts for a driver who has a stop for a rider when it begins.", () -> {
            HailCity x = line(2);
            x.driver(1);
            x.pass(3);
            due("no stops", x.driverIs(0, 5), 0);
            x.wander(0, 2);
            x.pass(2);
            due("for nobody", x.driverIs(0, 5), 0);
            x.request(3, 4, 60, true);
            x.match();
            due("no minute has begun", x.driverIs(0, 5), 0);
            x.pass(1);
            due("to let in", x.driverIs(0, 5), 1);
            x.pass(2);
            due("to let out", x.driverIs(0, 5), 3);
            x.pass(1);
            due("the minute in which the rider is let out", x.driverIs(0, 5), 4);
            x.pass(1);
            due("none behind it", x.driverIs(0, 5), 4);
            x.request(5, 6, 60, true);
            x.match();
            x.pass(1);
            x.request(5, 6, 60, true);
            x.share();
            x.cancel(1);
            x.pass(1);
            due("one of two cancelled, one minute for two riders", x.driverIs(0, 5), 6);
            HailCity y = line(2);
            y.driver(1);
            y.request(3, 4, 60, true);
            y.match();
            y.pass(1);
            y.cancel(0);
            y.pass(1);
            due("cancelled, then for nobody", y.driverIs(0, 5), 1);
        });
        says("75 hundredths of all prices of requests that are DONE, together, "
                + "or 30 for each minute that counts, if that is more", () -> {
            for (int off = 1; off <= 9; off++) {
                HailCity x = new HailCity();
                x.street(1, 2, 1);
                x.street(2, 3, off);
                x.driver(3);
                due("nothing yet", x.pay(0), 0);
                x.request(2, 1, 60, false);
                x.match();
                x.pass(off);
                due("minutes alone", x.pay(0), 30 * off);
                x.pass(1);
                int minutes = 30 * (off + 1);
                due("255, or minutes " + (off + 1), x.pay(0), minutes > 255 ? minutes : 255);
            }
            HailCity y = line(1);
            for (int i = 0; i < 4; i++) {
                y.request(1, 2, 60, true);
            }
            y.cancel(0);
            y.cancel(2);
            y.driver(1);
            y.driver(1);
            y.rest(1, true);
            y.match();
            y.share();
            y.pass(1);
            due("425 alone: 318.75", y.pay(0), 318);
            y.pass(2);
            due("425 and 595 together: 765", y.pay(0), 765);
            due("nothing for the other", y.pay(1), 0);
        });
    }

    private static void constants() {
        says("`NONE = -1`: There is none.", () -> {
            due("NONE", HailCity.NONE, -1);
            due("no way", new HailCity().way(0, 1), HailCity.NONE);
        });
        says("`WAITS = 0, SENT = 1, ABOARD = 2, DONE = 3, GONE = 4`: How requests are.", () -> {
            due("WAITS", HailCity.WAITS, 0);
            due("SENT", HailCity.SENT, 1);
            due("ABOARD", HailCity.ABOARD, 2);
            due("DONE", HailCity.DONE, 3);
            due("GONE", HailCity.GONE, 4);
        });
        for (String calls : new String[] {"`street`, `slow`, `way`", "`driver`, `rest`, `wander`",
            "`cap`, `height`, `request`, `cancel`, `rate`", "`airport`, `best`, `bestAnew`, `match`, `share`",
            "`requestIs`, `driverIs`, `stop`, `pay`, `pass`"}) {
            namesNoBoundary("Ahead of the calls " + calls + " the interface says: ---- ");
        }
    }
}
