import java.io.IOException;
import java.lang.reflect.Method;
import java.lang.reflect.Modifier;
import java.nio.charset.StandardCharsets;
import java.nio.file.Files;
import java.nio.file.Path;
import java.util.regex.Matcher;
import java.util.regex.Pattern;

/** What README.md says of the use of the class: its example answers as told there, and no call is left out. */
public final class ReadmeRuns extends Check {
    private static final Pattern ROW_OF_TABLE = Pattern.compile("(?m)^\\| `.*$");

    private static String readme = "";

    public static void main(String[] args) throws IOException {
        Path root = Path.of(args.length > 0 ? args[0] : ".");
        readme = Files.readString(root.resolve("README.md"), StandardCharsets.UTF_8);
        example();
        table();
        finish("ReadmeRuns");
    }

    /** The example's lines have to stand in README.md in this order, each with its answer. */
    private static void example() {
        about("the example");
        HailCity city = new HailCity();
        told("city.street(1, 2, 4);", city.street(1, 2, 4));
        told("city.street(2, 3, 3);", city.street(2, 3, 3));
        told("city.driver(1);", city.driver(1));
        int ride = city.request(2, 3, 10, true);
        told("int ride = city.request(2, 3, 10, true);", ride);
        told("city.requestIs(ride, 1);", city.requestIs(ride, 1));
        told("city.match();", city.match());
        told("city.requestIs(ride, 3);", city.requestIs(ride, 3));
        told("city.stop(0, 0, false);", city.stop(0, 0, false));
        told("city.request(3, 2, 20, true);", city.request(3, 2, 20, true));
        told("city.share();", city.share());
        told("city.pass(7);", city.pass(7));
        told("city.requestIs(ride, 0) == HailCity.DONE;", city.requestIs(ride, 0) == HailCity.DONE);
        told("city.rate(ride, 4);", city.rate(ride, 4));
        told("city.pay(0);", city.pay(0));
        must("lines without a test: " + readme, !Pattern.compile("(?m)^(int|city).*//").matcher(readme).find());
    }

    /** Takes the line out of what is read, so that the lines left over are seen. */
    private static void told(String call, Object answer) {
        Pattern pattern = Pattern.compile("(?m)^" + Pattern.quote(call) + " +// " + answer + "(:.*)?$");
        Matcher matcher = pattern.matcher(readme);
        boolean isThere = matcher.find();
        must("README.md does not say: " + call + " // " + answer, isThere);
        if (isThere) {
            must("out of order: " + call, !readme.substring(0, matcher.start()).contains("\ncity."));
            readme = readme.substring(0, matcher.start()) + readme.substring(matcher.end());
        }
    }

    private static void table() {
        about("the table");
        StringBuilder rows = new StringBuilder();
        for (Matcher matcher = ROW_OF_TABLE.matcher(readme); matcher.find();) {
            rows.append(matcher.group()).append('\n');
        }
        for (Method each : HailCity.class.getDeclaredMethods()) {
            if (Modifier.isPublic(each.getModifiers())) {
                int count = each.getParameterCount();
                String arguments = count == 0 ? "" : "\\w+(, \\w+){" + (count - 1) + "}";
                Pattern call = Pattern.compile("`" + each.getName() + "\\(" + arguments + "\\)`");
                must("no row for " + each.getName(), call.matcher(rows).find());
            }
        }
    }
}
