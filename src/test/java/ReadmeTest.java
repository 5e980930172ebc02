import java.io.IOException;
import java.nio.file.Files;
import java.nio.file.Path;
import java.util.List;

/** README.md's example is the one below, and each answer that it tells is the one there is; run from the root. */
public final class ReadmeTest {
    private static final Checks checks = new Checks();

    private static String example() throws IOException {
        String text = Files.readString(Path.of("README.md"));
        int begin = text.indexOf("```java\n") + 8;
        return text.substring(begin, text.indexOf("\n```", begin));
    }

    /** The lines between the two marks below, without their indent. */
    private static String ownExample() throws IOException {
        List<String> lines = Files.readAllLines(Path.of("src/test/java/ReadmeTest.java"));
        int begin = lines.indexOf("        // README begins") + 1;
        StringBuilder own = new StringBuilder();
        for (String line : lines.subList(begin, lines.indexOf("        // README ends"))) {
            own.append(own.length() > 0 ? "\n" : "").append(line.isEmpty() ? "" : line.substring(8));
        }
        return own.toString();
    }

    private static void tells(String example, String name, Object answer) {
        boolean told = false;
        for (String line : example.split("\n")) {
            told |= line.matches("\\w+ " + name + " = .*") && line.endsWith("// " + answer);
        }
        checks.due("README.md tells " + name + " " + answer, true, told);
    }

    public static void main(String[] args) throws IOException {
        // README begins
        BuckTables x = new BuckTables(10);          // a step is 10 parts
        x.stem(0, 400, 3);                          // points of stem 0: place, top, sweep
        x.stem(205, 300, 20);                       // .. its last one: 20 whole steps
        x.fault(95, 112, 2);                        // a fault of kind 2, from 95 to 112
        x.stems();                                  // stem 1 begins
        x.stem(0, 350, 10);
        x.stem(120, 280, 10);
        int beam = x.product(30, 60, 250, 30, 500); // least and greatest length, top, sweep, worth of a step
        int pulp = x.product(20, 40, 100, 60, 200);
        x.bars(beam, 2);                            // no beam with a fault of kind 2
        x.wish(beam, 1, 400);                       // a beam is worth 400 more on day 1, that is, of stem 1
        x.saw(1);                                   // a step is lost behind each log

        int logs = x.run();                         // 6
        long free = x.worth();                      // 13900

        x.limit(beam, 2);                           // at most two beams over all stems
        int rounds = x.priced(10);                  // 3
        long worth = x.worth();                     // 9500
        long atMost = x.bound();                    // 9500
        boolean most = x.greatest();                // true
        long beams = x.price(beam, 1);              // 2
        long pulps = x.price(pulp, 1);              // 4

        StringBuilder cuts = new StringBuilder();
        for (int k = 0; k < x.log(BuckTables.NONE, 0); k++) {
            cuts.append(k > 0 ? " " : "").append(x.log(k, 0)).append(":").append(x.log(k, 1)).append("+").append(x.log(k, 2));
        }
        String plan = cuts.toString();              // 0:0+4 0:5+4 0:10+4 0:15+4 1:0+6 1:7+5
        int rows = x.fuel(BuckTables.NONE, 0);      // 0

        int less = x.override(40);                  // 100
        // README ends
        String example = example();
        checks.due("the example", ownExample(), example);
        tells(example, "logs", logs);
        tells(example, "free", free);
        tells(example, "rounds", rounds);
        tells(example, "worth", worth);
        tells(example, "atMost", atMost);
        tells(example, "most", most);
        tells(example, "beams", beams);
        tells(example, "pulps", pulps);
        tells(example, "plan", plan);
        tells(example, "rows", rows);
        tells(example, "less", less);
        checks.end();
    }
}
