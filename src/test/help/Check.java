import java.util.function.IntSupplier;
import java.util.function.IntUnaryOperator;

/** What the tests of the project share: answers are counted, and compared with those that are due. */
abstract class Check {
    static final int BOUNDS = -101;
    static final int ARGUMENT = -102;
    static final int STATE = -103;
    static final int OTHER = -104;

    private static int passed = 0;
    private static int failed = 0;
    private static String label = "";

    static void about(String what) {
        label = what;
    }

    static int failures() {
        return failed;
    }

    static void finish(String name) {
        System.out.println(name + ": " + passed + " passed, " + failed + " failed");
        if (failed > 0) {
            System.exit(1);
        }
    }

    static void must(String what, boolean is) {
        if (is) {
            passed++;
        } else {
            failed++;
            System.out.println(label + ": " + what);
        }
    }

    static void due(String what, int got, int want) {
        must(what + " answered " + got + ", due is " + want, got == want);
    }

    static void dueThrow(String what, IntSupplier call, int want) {
        due(what + " (0 none, -101 bounds, -102 argument, -103 state)", thrownBy(call), want);
    }

    static int thrownBy(IntSupplier call) {
        int answer = answerOf(call);
        return answer >= OTHER && answer <= BOUNDS ? answer : 0;
    }

    /** Only the very classes that the document names count: the machine's own ones are of other classes. */
    static int answerOf(IntSupplier call) {
        try {
            return call.getAsInt();
        } catch (IndexOutOfBoundsException e) {
            return e.getClass() == IndexOutOfBoundsException.class ? BOUNDS : OTHER;
        } catch (IllegalArgumentException e) {
            return e.getClass() == IllegalArgumentException.class ? ARGUMENT : OTHER;
        } catch (IllegalStateException e) {
            return e.getClass() == IllegalStateException.class ? STATE : OTHER;
        } catch (RuntimeException e) {
            return OTHER;
        }
    }

    static void refusesOutside(String what, int least, int most, IntUnaryOperator call, int want) {
        for (int bad : new int[] {Integer.MIN_VALUE, least - 1, most + 1, Integer.MAX_VALUE}) {
            dueThrow(what + " " + bad, () -> call.applyAsInt(bad), want);
        }
    }

    static int bit(boolean is) {
        return is ? 1 : 0;
    }

    /** Places 0 to 9 in one line, each as many minutes from the next. */
    static HailCity line(int minutes) {
        HailCity x = new HailCity();
        for (int i = 0; i < 9; i++) {
            x.street(i, i + 1, minutes);
        }
        return x;
    }

    /** All stops of a driver: the place of each, and whom it is for. */
    static void row(String what, HailCity x, int driver, int... placesAndWhom) {
        due(what + ": stops", x.driverIs(driver, 1), placesAndWhom.length / 2);
        for (int i = 0; i < placesAndWhom.length / 2; i++) {
            due(what + ": place of stop " + i, x.stop(driver, i, false), placesAndWhom[2 * i]);
            due(what + ": whom at stop " + i, x.stop(driver, i, true), placesAndWhom[2 * i + 1]);
        }
    }
}
