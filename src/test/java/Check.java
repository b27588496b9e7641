/** What the tests by hand share: a text for the tape, and answers that are due. */
final class Check {
    private static int wrong = 0;
    private static int checks = 0;

    private Check() { }

    static void due(String what, int got, int want) {
        checks++;
        if (got != want) {
            wrong++;
            System.out.println(what + " answered " + got + ", due is " + want);
        }
    }

    static void due(String what, boolean got, boolean want) {
        due(what, got ? 1 : 0, want ? 1 : 0);
    }

    static void feed(SleepWork x, String text) {
        StringBuilder padded = new StringBuilder(text);
        while (padded.length() % 20 != 0) {
            padded.append(' ');
        }
        for (int i = 0; i < padded.length(); i += 20) {
            int[] w = new int[5];
            for (int j = 0; j < 20; j++) {
                w[j / 4] = w[j / 4] << 8 | padded.charAt(i + j) & 255;
            }
            if (x.feed(w[0], w[1], w[2], w[3], w[4]) < 0) {
                wrong++;
                System.out.println("the tape is full: " + text);
            }
        }
        x.back(padded.length() - text.length());
    }

    /** A new object that has read a text without a fault. */
    static SleepWork house(String text) {
        SleepWork x = new SleepWork();
        feed(x, text);
        due("read() of " + text, x.read(), 0);
        return x;
    }

    static void fault(String text, int number, int place) {
        SleepWork x = new SleepWork();
        feed(x, text);
        due("read() of " + text, x.read(), number);
        due("place() of " + text, x.place(), place);
        due("tape behind " + text, x.count(9), 0);
    }

    static void end() {
        System.out.println(checks + " checks, " + wrong + " wrong");
        if (wrong != 0) {
            System.exit(1);
        }
    }
}
