import java.nio.file.Files;
import java.nio.file.Path;
import java.util.List;

/** The example in README.md: each call in it answers the number that stands behind it there. */
public final class ReadmeTest {
  private static final Path README = Path.of("README.md");
  private static int line = 0;

  public static void main(String[] args) throws Exception {
    List<String> told = Files.readAllLines(README).stream().map(String::strip).filter(l -> l.startsWith("house.")).toList();
    CounterHouse house = new CounterHouse();
    due(told, "house.plane(0, 4, 0, 0);", house.plane(0, 4, 0, 0));
    due(told, "house.tune(0, 10);", house.tune(0, 10));
    due(told, "house.pulse(0, 104, 5);", house.pulse(0, 104, 5));
    due(told, "house.pulse(1, 101, 6);", house.pulse(1, 101, 6));
    due(told, "house.pulse(1, 93, 6);", house.pulse(1, 93, 6));
    due(told, "house.end();", house.end());
    due(told, "house.many(7);", house.many(7));
    due(told, "house.group(0, 0);", house.group(0, 0));
    due(told, "house.group(0, 1);", house.group(0, 1));
    due(told, "house.member(0, 1, 0);", house.member(0, 1, 0));
    due(told, "house.twos(0, 1, 1);", house.twos(0, 1, 1));
    due(told, "house.rate(0, 0);", house.rate(0, 0));
    due(told, "house.rate(0, 1);", house.rate(0, 1));
    due(told, "house.track(0, 0);", house.track(0, 0));
    due(told, "house.track(0, 1);", house.track(0, 1));
    Due.due("calls in the example", told.size(), line);
    Due.close();
  }

  /** The next line of the example is this call, and the number behind it is what the call answered. */
  private static void due(List<String> told, String call, long got) {
    String there = line < told.size() ? told.get(line) : "";
    line++;
    Due.due("line " + line + " of the example, " + there + ", is " + call, there.startsWith(call) ? 1 : 0, 1);
    String number = there.replaceFirst("^[^/]*// (-?\\d+).*$", "$1");
    Due.due(call + " as README.md tells", number.matches("-?\\d+") ? Long.parseLong(number) : Long.MAX_VALUE, got);
  }
}
