import java.io.IOException;
import java.nio.file.Files;
import java.nio.file.Path;

/** Runs the example of README.md, and looks that each of its lines stands here too. */
public final class ReadmeTest extends Checks {
    private static void theExample() {
        about("the example of README.md");
        SaltShares town = new SaltShares();
        int bread = town.open(0, 0, false);      // 0: a bread of group 0 that is not sticky
        int more = town.raise(bread, 20);        // 33 persons eat it, as it owns 20 of the group's 100 buckets
        int servings = town.pass(3);             // 99 servings in three days
        int left = town.undo();                  // 2 states are still saved; the days have not passed
        due("open", bread, 0);
        due("raise", more, 33);
        due("pass", servings, 99);
        due("undo", left, 2);
        due("number of the day", town.count(2), 0);

        String commands = "+0=40;i7@0;d2;+3=5";  // a share, a hold, two days, and a share of a bread that there is not
        for (int i = 0; i < commands.length(); i++) {
            town.append(commands.charAt(i));
        }
        int error = town.firstError();           // 18, the length of the buffer: no syntax error
        int done = town.run();                   // 3 commands are carried out, and the buffer is empty
        due("firstError", error, 18);
        due("run", done, 3);
        due("length of the buffer", town.clearBuffer(), 0);

        int why = town.eats(7, bread);           // 1: held in
        int would = town.ifShare(bread, 50);     // 80 persons would eat it with the share 50
        int share = town.shareFor(bread, 75);    // 47 is the least share with 75 eaters
        int next = town.nextEater(bread);        // person 64 comes next
        double part = town.part(bread);          // 0.46 of the town eat it
        due("eats", why, 1);
        due("ifShare", would, 80);
        due("shareFor", share, 47);
        due("nextEater", next, 64);
        holds("part", part == 0.46);
    }

    private static void isTheOneOfTheReadme() throws IOException {
        about("README.md");
        String readme = Files.readString(Path.of("README.md"));
        String own = Files.readString(Path.of("src/test/java/ReadmeTest.java"));
        int start = readme.indexOf("```java\n");
        int end = readme.indexOf("```\n", start + 8);
        holds("it has an example", start >= 0 && end > start);
        for (String line : readme.substring(start + 8, end).split("\n")) {
            holds("a line is not run: " + line, own.contains("        " + line + "\n") || line.isEmpty());
        }
    }

    public static void main(String[] args) throws IOException {
        theExample();
        isTheOneOfTheReadme();
        close("ReadmeTest");
    }
}
