import java.io.File;
import java.nio.file.Files;
import java.nio.file.Path;
import java.util.List;

/** README.md: its example answers what it says, and it names every call and every test. */
public final class ReadmeTest {
    public static void main(String[] args) throws Exception {
        List<String> readme = Files.readAllLines(Path.of("README.md"));
        checkExample();
        checkExampleIsTheReadmes(readme);
        checkWindRow();
        String text = String.join("\n", readme);
        for (var call : CraneCampaign.class.getDeclaredMethods()) {
            if ((call.getModifiers() & java.lang.reflect.Modifier.PUBLIC) != 0) {
                Check.dueTrue("README.md names " + call.getName(), text.contains("`" + call.getName() + "`"));
            }
        }
        for (String file : new File("src/test/java").list()) {
            if (file.endsWith("Test.java")) {
                String name = file.substring(0, file.length() - ".java".length());
                Check.dueTrue("README.md names " + name, text.contains("| `" + name + "` |"));
            }
        }
        Check.dueTrue("README.md names .ci/run", text.contains("`.ci/run`"));
        Check.finish();
    }

    private static void checkExample() {
        CraneCampaign farm = new CraneCampaign();
        int turbine = farm.addTurbine(10, 100, 12);
        Check.due("0: its number", 0, turbine);
        Check.due("0: the previous fault", 0, farm.setFault(turbine, 2));
        Check.due("1: blades ordered and not used", 1, farm.orderBlade(turbine));
        Check.due("1: turbines in the plan", 1, farm.plan(turbine, 0));
        int hours = farm.doneIn();
        Check.due("8: two hours of way, six hours of work", 8, hours);
        int lost = farm.pass(hours);
        Check.due("56: half of 8 in each hour of way, 8 in each hour of work", 56, lost);
        int fault = farm.turbine(turbine, 3);
        Check.due("0: none is left", 0, fault);
        int left = farm.undo();
        Check.due("4: the hours are taken back, four more calls can be", 4, left);
    }

    // Each line of the example stands in this file, too: its call, and what it says of the answer.
    private static void checkExampleIsTheReadmes(List<String> readme) throws Exception {
        String test = Files.readString(Path.of("src/test/java/ReadmeTest.java"));
        int begin = readme.indexOf("```java") + 1;
        int lines = 0;
        for (int i = begin; begin > 0 && i < readme.size() && !readme.get(i).equals("```"); i++) {
            String[] parts = readme.get(i).split("; +// |;$");
            Check.dueTrue("the example's call: " + parts[0], test.contains(parts[0]));
            if (parts.length > 1) {
                String answer = parts[1].split(";")[0];
                Check.dueTrue("the example's answer: " + answer, test.contains("\"" + answer + "\""));
            }
            lines++;
        }
        Check.due("lines of the example", 9, lines);
    }

    private static void checkWindRow() {
        CraneCampaign farm = new CraneCampaign();
        String row = "8*5,12,3*2";
        for (int i = 0; i < row.length(); i++) {
            farm.append(row.charAt(i));
        }
        Check.due("load of " + row, 8, farm.load());
        Check.due("wind", 8, farm.count(3));
    }
}
