import java.io.File;
import java.io.IOException;
import java.lang.reflect.Method;
import java.nio.file.Files;
import java.nio.file.Path;
import java.util.ArrayList;
import java.util.List;
import java.util.regex.Matcher;
import java.util.regex.Pattern;

/** README.md: its example is the one that runs here, answers as it says there, and no call or test is missing. */
final class ReadmeTest {
    private static final List<Integer> SAID = new ArrayList<>();

    private ReadmeTest() { }

    public static void main(String[] args) throws IOException {
        String readme = Files.readString(Path.of("README.md"));
        example();
        answersAreAsTheReadmeSays(readme);
        sameLines(readme);
        namesEverything(readme);
        Check.end();
    }

    private static void say(int answer) {
        SAID.add(answer);
    }

    static void feed(SleepWork x, String text) {
        int blanks = (20 - text.length() % 20) % 20;
        byte[] bytes = (text + " ".repeat(blanks)).getBytes(java.nio.charset.StandardCharsets.ISO_8859_1);
        java.nio.IntBuffer ints = java.nio.ByteBuffer.wrap(bytes).asIntBuffer();
        while (ints.hasRemaining()) {
            x.feed(ints.get(), ints.get(), ints.get(), ints.get(), ints.get());
        }
        x.back(blanks);
    }

    private static void example() {
        SleepWork x = new SleepWork();
        feed(x, "room bed; room shop; door bed shop 10; tool saw shop;"
            + " task chair shop 20; step chair 30 2 5 1 with saw; step chair 20 2 7 2;"
            + " man ann bed left chair 0; law ann = if done < 2 then last else last + 1; night 240;");
        say(x.read());              // 0: no fault (else its number, and place() is the byte where it lies)
        say(x.gain());              // 24: what this night would win, twice 5 and twice 7
        say(x.where(0, 9));         // 0: still on her way, which counts as home
        say(x.strokes(0, 90));      // 3: steps that are over at minute 90
        say(x.best(0, 1));          // 0: best she leaves task 0 at step 0 (10 * the task + the step)
        say(x.hide(0, 1));          // 1: the saw best lies in room 1
        say(x.bars(1));             // 0: no door is to be shut
        say(x.tell(0, 1, 4));       // 0: told as number 0, step 1 is found done four times in the morning
        say(x.fits(0, 1, -1));      // 0: nothing that she may have left leads to that
        say(x.night());             // 24: a night goes by
        say(x.man(0, 5));           // 110: the minute at which she lay down, as the task was ended
        say(x.man(0, 1));           // -2: so she has left nothing
        say(x.undo() ? 1 : 0);      // 1: it is evening again
        say(x.man(0, 1));           // 0: and she has left the chair
    }

    private static void answersAreAsTheReadmeSays(String readme) {
        Matcher line = Pattern.compile("say\\((.*)\\); *// (-?\\d+):").matcher(readme);
        int index = 0;
        while (line.find()) {
            boolean ran = index < SAID.size();
            Check.due(line.group(1), ran ? SAID.get(index) : Integer.MIN_VALUE, Integer.parseInt(line.group(2)));
            index++;
        }
        Check.due("as many answers", index, SAID.size());
    }

    /** Each line of Java on the page stands here too, so what runs here is what the page shows. */
    private static void sameLines(String readme) throws IOException {
        List<String> here = Files.readAllLines(Path.of("src/test/java/ReadmeTest.java")).stream().map(String::strip).toList();
        Matcher block = Pattern.compile("```java\n(.*?)```", Pattern.DOTALL).matcher(readme);
        int blocks = 0;
        while (block.find()) {
            blocks++;
            for (String line : block.group(1).split("\n")) {
                Check.due("runs here: " + line, here.contains(line.strip()), true);
            }
        }
        Check.due("a helper and an example", blocks, 2);
    }

    private static void namesEverything(String readme) {
        for (Method method : SleepWork.class.getDeclaredMethods()) {
            if (java.lang.reflect.Modifier.isPublic(method.getModifiers())) {
                Check.due("names " + method.getName(), readme.contains("`" + method.getName() + "`"), true);
            }
        }
        File[] tests = new File("src/test/java").listFiles((dir, name) -> name.endsWith("Test.java"));
        Check.due("there are tests", tests != null && tests.length > 0, true);
        for (File test : tests == null ? new File[0] : tests) {
            String name = test.getName().replace(".java", "");
            Check.due("names " + name, readme.contains("`" + name + "`"), true);
        }
    }
}
