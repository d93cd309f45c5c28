import java.io.IOException;
import java.nio.charset.StandardCharsets;
import java.nio.file.Files;
import java.nio.file.Path;
import java.util.ArrayList;
import java.util.List;
import java.util.regex.Matcher;
import java.util.regex.Pattern;

/**
 * README.md's example, so that it never tells what the class does not do. The lines between the two
 * marks are README.md's own; what they answer must be the number behind each of them.
 */
public final class ReadmeTest {
    private static final String FROM = "// README from here", TO = "// README to here";
    private static int wrong = 0;

    private static void want(boolean holds, String what) {
        if (!holds) {
            wrong++;
            System.out.println("does not hold: " + what);
        }
    }

    public static void main(String[] args) throws IOException {
        List<String> told = between("README.md", "```java", "```");
        List<String> run = between("src/test/java/ReadmeTest.java", FROM, TO);
        want(told.equals(run), "README.md's example is the one that is run here:\n" + told + "\n" + run);
        int[] got = example();
        List<Integer> due = numbersBehind(told);
        want(due.size() == got.length, due.size() + " numbers in README.md, " + got.length + " answers here");
        for (int i = 0; i < got.length && i < due.size(); i++) {
            want(got[i] == due.get(i), "answer " + i + " was " + got[i] + ", README.md says " + due.get(i));
        }
        System.out.println(wrong == 0 ? "the example is as due" : wrong + " faults");
        if (wrong != 0) {
            System.exit(1);
        }
    }

    private static int[] example() {
        // README from here
        SongField field = new SongField();
        int mixed = field.choir(0, 3, 12101008, 0);         // 0: MIXED, of TOWN 3, with 12, 10, 10 and 8 SINGERS
        int young = field.choir(3, 1, 9080000, 0);          // 1: YOUNG, of TOWN 1, with 9 and 8 high voices
        int far = field.choir(4, 6, 5050505, 2);            // 2: FAR, of TOWN 6; it comes on DAY 2
        int joint = field.choir(5, 0, 0, 16 * mixed + far); // 3: JOINT of the first and the third
        int song = field.song(63, 3, 4, 5);                 // 0: all KINDS, VOICES 0 and 1, HARDNESS 4, 5 minutes
        int judge = field.judge(0);                         // 0: of TOWN 0
        int before = field.mark(judge, mixed, 57);          // -1: NONE, it had no MARK
        for (char sign : "bar * if mark<60 and hard>3".toCharArray()) {
            field.feed(sign, 1);
        }
        int rule = field.rule();                            // 0: the tape was a RULE, and is empty again
        int barred = field.may(mixed, song);                // 4: that RULE bars it
        int why = field.why(mixed, song);                   // 0: the RULE's number
        int away = field.may(far, song);                    // 1: it is not there on DAY 0
        int width = field.stage(3, 60);                     // 0: 3 rows of 60 places
        int clear = field.lay(0, 1 << mixed | 1 << young);  // 40: the seconds until both are off again
        int refused = field.lay(1, 1 << young);             // -3: STATE, it stands already; nothing has changed
        // README to here
        return new int[] {mixed, young, far, joint, song, judge, before, rule, barred, why, away, width,
            clear, refused};
    }

    private static List<String> between(String file, String from, String to) throws IOException {
        List<String> lines = new ArrayList<>();
        boolean inside = false;
        for (String line : Files.readAllLines(Path.of(file), StandardCharsets.UTF_8)) {
            String bare = line.strip();
            if (inside && bare.equals(to)) {
                return lines;
            }
            if (inside) {
                lines.add(bare);
            }
            inside |= bare.equals(from);
        }
        want(false, file + " has an example");
        return lines;
    }

    private static List<Integer> numbersBehind(List<String> lines) {
        List<Integer> numbers = new ArrayList<>();
        for (String line : lines) {
            Matcher number = Pattern.compile("// (-?[0-9]+):").matcher(line);
            if (number.find()) {
                numbers.add(Integer.parseInt(number.group(1)));
            }
        }
        return numbers;
    }
}
