import java.io.IOException;
import java.io.UncheckedIOException;
import java.nio.file.Files;
import java.nio.file.Path;
import java.util.ArrayList;
import java.util.List;
import java.util.function.Supplier;
import java.util.function.ToIntFunction;

/** What the tests by hand share: a text for the tape, and answers that are due. */
final class Check {
    private static int wrong = 0;
    private static int checks = 0;
    private static String sentence = "";
    private static String document = null;

    private Check() { }

    /** What follows tests these words, which must stand in the document. */
    static void says(String words) {
        sentence = words;
        due("stands in the document", document().contains(words), true);
    }

    private static String document() {
        if (document == null) {
            try {
                document = Files.readString(Path.of("../shared/DOC.md")).replaceAll("\\s+", " ");
            } catch (IOException e) {
                throw new UncheckedIOException(e);
            }
        }
        return document;
    }

    static void due(String what, int got, int want) {
        checks++;
        if (got != want) {
            wrong++;
            System.out.println((sentence.isEmpty() ? "" : "'" + sentence + "': ") + what + " answered " + got + ", due is " + want);
        }
    }

    static void due(String what, boolean got, boolean want) {
        due(what, got ? 1 : 0, want ? 1 : 0);
    }

    static void feed(SleepWork x, String text) {
        StringBuilder padded = new StringBuilder(text);
        while (padded.length() % 20 != 0) {
            padded.append(' ');
        }
        for (int i = 0; i < padded.length(); i += 20) {
            int[] w = new int[5];
            for (int j = 0; j < 20; j++) {
                w[j / 4] = w[j / 4] << 8 | padded.charAt(i + j) & 255;
            }
            if (x.feed(w[0], w[1], w[2], w[3], w[4]) < 0) {
                wrong++;
                System.out.println("the tape is full: " + text);
            }
        }
        x.back(padded.length() - text.length());
    }

    /** A new object that has read a text without a fault. */
    static SleepWork house(String text) {
        SleepWork x = new SleepWork();
        feed(x, text);
        due("read() of " + text, x.read(), 0);
        due("place() of " + text, x.place(), -1);
        return x;
    }

    static void fault(String text, int number, int place) {
        SleepWork x = new SleepWork();
        feed(x, text);
        due("read() of " + text, x.read(), number);
        due("place() of " + text, x.place(), place);
        due("tape behind " + text, x.count(9), 0);
    }

    /** A text whose fault lies where the mark @ stands in it, which is no part of it. */
    static void faultAtMark(String text, int number) {
        fault(text.replace("@", ""), number, text.indexOf('@'));
    }

    /** A piece of text again and again, its mark # being another letter each time. */
    static String many(String what, int times) {
        StringBuilder all = new StringBuilder();
        for (int i = 0; i < times; i++) {
            all.append(what.replace('#', (char) ('c' + i)));
        }
        return all.toString();
    }

    /** All that can be asked of an object without anything happening, within some 150 calls for a small house. */
    static List<Integer> portrait(SleepWork x) {
        List<Integer> all = new ArrayList<>();
        all.add(x.place());
        for (int what = 0; what <= 12; what++) {
            all.add(x.count(what));
        }
        for (int task = 0; task < x.count(3); task++) {
            for (int what = 0; what < 5; what++) {
                all.add(x.task(task, what));
            }
            for (int step = 0; step < x.task(task, 1); step++) {
                for (int what = 0; what < 7; what++) {
                    all.add(x.step(task, step, what));
                }
            }
        }
        for (int man = 0; man < x.count(4); man++) {
            for (int what = 0; what < 6; what++) {
                all.add(x.man(man, what));
            }
        }
        for (int tool = 0; tool < x.count(2); tool++) {
            all.add(x.tool(tool));
        }
        for (int room = 1; room < x.count(0); room++) {
            all.add(x.way(0, room));
        }
        for (int k = 0; k <= x.count(11); k++) {
            all.add(x.suspects(k));
            all.add(x.fits(0, k, -1));
        }
        all.add(x.gain());
        return all;
    }

    /** A call that answers what is due and changes nothing that can be asked. */
    static void refused(String what, Supplier<SleepWork> made, ToIntFunction<SleepWork> call, int want) {
        SleepWork x = made.get();
        List<Integer> ahead = portrait(x);
        due(what, call.applyAsInt(x), want);
        List<Integer> behind = portrait(x);
        due(what + " changes nothing: " + ahead + " is " + behind, ahead.equals(behind), true);
    }

    static void end() {
        System.out.println(checks + " checks, " + wrong + " wrong");
        if (wrong != 0) {
            System.exit(1);
        }
    }
}
