import java.util.ArrayList;
import java.util.List;
import java.util.Random;

/** Runs of calls by chance (the same ones each time) on SleepWork and on PlainModel: all answers must agree. */
public final class RandomRunsTest {
    private static final int RUNS = 700;
    private static final int CALLS = 400;
    private final Random random;
    private final SleepWork real = new SleepWork();
    private final PlainModel plain = new PlainModel();
    private final StringBuilder log = new StringBuilder();
    // Asked again behind other calls: an answer that SleepWork keeps must not outlive a change.
    private Runnable question = () -> { };
    private static int wrong = 0;
    private static long calls = 0;
    private static final int[] faultsSeen = new int[6];

    private RandomRunsTest(long seed) {
        random = new Random(seed);
    }

    public static void main(String[] args) {
        int from = args.length > 0 ? Integer.parseInt(args[0]) : 0;
        int runs = args.length > 1 ? Integer.parseInt(args[1]) : RUNS;
        for (int seed = from; seed < from + runs && wrong == 0; seed++) {
            new RandomRunsTest(seed).run(seed);
        }
        System.out.println(calls + " calls compared, faults read " + java.util.Arrays.toString(faultsSeen));
        if (wrong != 0) {
            System.exit(1);
        }
    }

    private void run(int seed) {
        for (int i = 0; i < CALLS && wrong == 0; i++) {
            if (i % 80 == 0) {
                readSome(i == 0 || random.nextInt(3) > 0);
                for (int n = 0; n < 5; n++) {
                    readSome(false);
                }
            } else {
                call();
            }
        }
        if (wrong != 0) {
            System.out.println("seed " + seed + ":\n" + log);
        }
    }

    private boolean due(String call, int got, int want) {
        calls++;
        log.append(call).append(" = ").append(got).append('\n');
        if (got != want) {
            wrong++;
            log.append("WRONG: due is ").append(want).append('\n');
        }
        return got == want;
    }

    private int up(int n) {
        return random.nextInt(n);
    }

    /** Mostly 0 .. n - 1, at times a bit outside or far out. */
    private int about(int n) {
        int way = up(24);
        if (way == 0) {
            return n;
        }
        if (way == 1) {
            return -1;
        }
        if (way == 2 && up(3) == 0) {
            return random.nextInt();
        }
        return n <= 0 ? up(2) : up(n);
    }

    private void readSome(boolean whole) {
        String text = up(12) == 0 ? bigText() : text();
        if (!whole) {
            text = spoilt(text);
        }
        feedText(text);
        log.append(text).append('\n');
        int got = real.read();
        if (due("read()", got, plain.read())) {
            faultsSeen[got]++;
        }
        due("place()", real.place(), plain.place);
    }

    private void feedText(String text) {
        StringBuilder padded = new StringBuilder(text.length() > 2000 ? text.substring(0, 2000) : text);
        int length = padded.length();
        while (padded.length() % 20 != 0) {
            padded.append(' ');
        }
        due("back(all)", real.back(plain.tape.length), plain.back(plain.tape.length));
        for (int i = 0; i < padded.length(); i += 20) {
            int[] w = new int[5];
            for (int j = 0; j < 20; j++) {
                w[j / 4] = w[j / 4] << 8 | padded.charAt(i + j);
            }
            due("feed", real.feed(w[0], w[1], w[2], w[3], w[4]), plain.feed(w));
        }
        due("back", real.back(padded.length() - length), plain.back(padded.length() - length));
    }

    private String text() {
        StringBuilder t = new StringBuilder();
        int rooms = 1 + up(5);
        int tools = up(4);
        int tasks = up(4);
        int men = up(4);
        int doors = rooms < 2 ? 0 : up(6);
        for (int i = 0; i < rooms; i++) {
            t.append("room r").append((char) ('a' + i)).append(";\n");
        }
        for (int i = 0; i < doors; i++) {
            int from = up(rooms);
            int to = (from + 1 + up(rooms - 1)) % rooms;
            t.append("door ").append(room(from)).append(' ').append(room(to)).append(' ').append(1 + up(up(3) == 0 ? 60 : 9))
                .append(up(4) == 0 ? " shut;" : ";");
        }
        for (int i = 0; i < tools; i++) {
            t.append("tool o").append((char) ('a' + i)).append(' ').append(room(up(rooms))).append(";");
        }
        int[] steps = new int[tasks];
        for (int i = 0; i < tasks; i++) {
            t.append("task t").append((char) ('a' + i)).append(' ').append(room(up(rooms))).append(' ')
                .append(up(3) == 0 ? up(6) : up(60)).append(";");
            for (int n = up(5); n > 0; n--) {
                addStep(t, i, steps, tools);
            }
        }
        for (int i = 0; i < men; i++) {
            t.append("man m").append((char) ('a' + i)).append(' ').append(room(up(rooms)));
            int task = tasks == 0 ? 0 : up(tasks);
            if (tasks > 0 && steps[task] > 0 && up(5) > 0) {
                t.append(" left t").append((char) ('a' + task)).append(' ').append(up(steps[task]));
            }
            t.append(";");
            if (up(3) > 0) {
                addLaw(t, i);
            }
        }
        if (up(5) > 0) {
            t.append("night ").append(1 + up(up(4) == 0 ? 600 : 60)).append(";");
        }
        return t.toString();
    }

    private static String room(int i) {
        return "r" + (char) ('a' + i);
    }

    private void addStep(StringBuilder t, int task, int[] steps, int tools) {
        t.append("step t").append((char) ('a' + task)).append(' ').append(1 + up(up(5) == 0 ? 120 : 6)).append(' ')
            .append(up(up(4) == 0 ? 100 : 4)).append(' ').append(up(10)).append(' ').append(up(10));
        if (tools > 0 && up(2) == 0) {
            t.append(" with o").append((char) ('a' + up(tools)));
        }
        if (steps[task] > 0 && up(3) == 0) {
            t.append(" undoes ").append(up(steps[task]));
        }
        t.append(";");
        steps[task]++;
    }

    private void addLaw(StringBuilder t, int man) {
        t.append("law m").append((char) ('a' + man)).append("=");
        for (int ifs = up(4); ifs > 0; ifs--) {
            t.append("if ").append(sum(2)).append('<').append(sum(2)).append(" then ").append(sum(2)).append(" else ");
        }
        t.append(sum(3)).append(";");
    }

    private String sum(int depth) {
        StringBuilder t = new StringBuilder(unit(depth));
        while (up(2) == 0) {
            t.append("+-*/".charAt(up(4))).append(unit(depth));
        }
        return t.toString();
    }

    private String unit(int depth) {
        String[] vars = {"last", "done", "steps", "minute", "stuff", "times"};
        int way = up(7);
        if (way == 0 && depth > 0) {
            return "(" + sum(depth - 1) + ")";
        }
        return way < 4 ? vars[up(6)] : "" + up(up(8) == 0 ? 10000 : 5);
    }

    /** Close to one of the limits, a bit above or below. */
    private String bigText() {
        StringBuilder t = new StringBuilder("room ra; room rb; tool oa ra; task ta ra 9; step ta 3 2 1 1; man ma ra left ta 0;");
        switch (up(9)) {
            case 0 -> many(t, "room n#;", 4 + up(4));
            case 1 -> many(t, "door ra rb 7;", 10 + up(4));
            case 2 -> many(t, "tool n# rb;", 4 + up(3));
            case 3 -> many(t, "task n# rb 4;", 4 + up(3));
            case 4 -> many(t, "step ta 3 2 1 1 undoes 0;", 4 + up(3));
            case 5 -> many(t, "man n# rb;", 4 + up(3));
            case 6 -> many(t, "law ma=last+1;", 7 + up(3));
            case 7 -> {
                t.append("law ma=");
                many(t, "if 1<0 then 1 else ", 3 + up(3));
                int depth = 4 + up(4);
                t.append("(".repeat(depth)).append("last+1").append(")".repeat(depth)).append(";");
            }
            default -> {
                // 36 tokens stand there already; each round brings three more.
                many(t, "night 9;", 119 + up(5));
                t.append(up(2) == 0 ? "room n;" : "step ta 1 1 1 1;");
            }
        }
        return t.toString();
    }

    private static void many(StringBuilder t, String what, int times) {
        for (int i = 0; i < times; i++) {
            t.append(what.replace('#', (char) ('a' + i % 26)));
        }
    }

    private String spoilt(String text) {
        List<String> tokens = new ArrayList<>();
        java.util.regex.Matcher m = java.util.regex.Pattern.compile("[a-z]+|[0-9]+|\\S").matcher(text);
        while (m.find()) {
            tokens.add(m.group());
        }
        String[] others = {"ra", "ta", "oa", "ma", "zz", "0", "1", "7", "99", "601", "12345", "abcdefgh", "abcdefghi",
            ";", "=", "<", "(", ")", "+", "-", "*", "/", "?", "\u00e4", ".", "A", "if", "then", "else", "last", "shut",
            "with", "undoes", "left", "room", "step", "law", "night", "1000", "121", "61"};
        for (int n = 1 + up(2); n > 0 && !tokens.isEmpty(); n--) {
            int at = up(tokens.size());
            switch (up(12)) {
                case 0 -> tokens.remove(at);
                case 1 -> tokens.set(at, others[up(others.length)]);
                case 2 -> tokens.add(at, others[up(others.length)]);
                case 3 -> tokens.add(at, tokens.get(up(tokens.size())));
                case 4 -> tokens.set(at, tokens.get(up(tokens.size())));
                default -> {
                    for (int tries = 0; tries < 9 && tokens.get(at).equals(alike(tokens.get(at), tokens)); tries++) {
                        at = up(tokens.size());
                    }
                    tokens.set(at, alike(tokens.get(at), tokens));
                }
            }
        }
        if (up(6) == 0) {
            tokens = tokens.subList(0, up(tokens.size() + 1));
        }
        StringBuilder t = new StringBuilder();
        for (String s : tokens) {
            t.append(s).append(up(30) == 0 ? "" : up(20) == 0 ? "\t\r\n" : " ");
        }
        return t.toString();
    }

    /** Another name for a name, another number for a number: the form stays. */
    private String alike(String token, List<String> tokens) {
        if (Character.isDigit(token.charAt(0))) {
            int[] edges = {0, 1, 2, 5, 6, 60, 61, 99, 100, 120, 121, 600, 601, 999, 1000, 9999};
            return "" + edges[up(edges.length)];
        }
        List<String> names = new ArrayList<>(List.of("zz"));
        tokens.stream().filter(t -> t.length() == 2 && Character.isLetter(t.charAt(0)) && !t.equals("if")).forEach(names::add);
        return names.contains(token) ? names.get(up(names.size())) : token;
    }

    private static int bit(boolean b) {
        return b ? 1 : 0;
    }

    private void ask(Runnable what) {
        question = what;
        question.run();
    }

    private void call() {
        if (up(3) == 0) {
            question.run();
        }
        int men = plain.now.men.size();
        int tools = plain.now.tools.size();
        int rooms = plain.now.rooms;
        int a = about(men);
        int b = about(men);
        int task = about(plain.now.tasks.size());
        int steps = task >= 0 && task < plain.now.tasks.size() ? plain.now.tasks.get(task).steps.size() : 2;
        int step = about(steps);
        int what = about(8);
        int tool = about(tools);
        switch (up(34)) {
            case 0 -> due("task " + task + " " + what, real.task(task, what), plain.task(task, what));
            case 1 -> due("step " + task + " " + step + " " + what, real.step(task, step, what), plain.step(task, step, what));
            case 2, 3 -> due("man " + a + " " + what, real.man(a, what), plain.man(a, what));
            case 4 -> due("tool " + tool, real.tool(tool), plain.tool(tool));
            case 5 -> ways(about(rooms), about(rooms));
            case 6, 7 -> leave(a, task, step);
            case 8 -> due("work " + task + " " + step, bit(real.work(task, step)), plain.work(task, step));
            case 9 -> lay(tool, about(rooms));
            case 10 -> due("give " + tool + " " + a, bit(real.give(tool, a)), plain.give(tool, a));
            case 11 -> bar(about(plain.now.doors.size()), random.nextBoolean());
            case 12, 13, 14 -> due("night", real.night(), plain.night());
            case 15 -> due("undo", bit(real.undo()), plain.undo());
            case 16 -> due("gain", real.gain(), plain.gain());
            case 17 -> best(a, about(2));
            case 18 -> bestOfTwo(a, b, about(3));
            case 19 -> due("hire " + a, real.hire(a), plain.hire(a));
            case 20 -> hide(tool, about(2));
            case 21 -> bars(about(2));
            case 22 -> where(a, about(plain.now.night + 1));
            case 23 -> strokes(a, about(plain.now.night + 1));
            case 24, 25 -> tell(task, step, about(up(3) == 0 ? 1000 : 4));
            case 26 -> forget();
            case 27 -> fits(a, about(plain.told.size() + 1), about(5));
            case 28 -> suspects(about(plain.told.size() + 1));
            case 29 -> pairs(a, b, about(plain.told.size() + 1));
            case 30 -> slot(about(3));
            case 31, 32 -> count(about(13));
            default -> feedSome();
        }
    }

    private void ways(int one, int other) {
        due("way " + one + " " + other, real.way(one, other), plain.way(one, other));
    }

    private void leave(int man, int task, int step) {
        boolean nothing = up(6) == 0;
        int t = nothing ? -1 : task;
        int s = nothing ? -1 : step;
        due("leave " + man + " " + t + " " + s, bit(real.leave(man, t, s)), plain.leave(man, t, s));
    }

    private void lay(int tool, int room) {
        due("lay " + tool + " " + room, bit(real.lay(tool, room)), plain.lay(tool, room));
    }

    private void bar(int door, boolean shut) {
        due("bar " + door + " " + shut, bit(real.bar(door, shut)), plain.bar(door, shut));
    }

    private void best(int man, int what) {
        ask(() -> due("best " + man + " " + what, real.best(man, what), plain.best(man, what)));
    }

    private void bestOfTwo(int man, int other, int what) {
        ask(() -> due("bestOfTwo " + man + " " + other + " " + what, real.bestOfTwo(man, other, what), plain.bestOfTwo(man, other, what)));
    }

    private void hide(int tool, int what) {
        ask(() -> due("hide " + tool + " " + what, real.hide(tool, what), plain.hide(tool, what)));
    }

    private void bars(int what) {
        ask(() -> due("bars " + what, real.bars(what), plain.bars(what)));
    }

    private void where(int man, int minute) {
        due("where " + man + " " + minute, real.where(man, minute), plain.where(man, minute));
    }

    private void strokes(int man, int minute) {
        due("strokes " + man + " " + minute, real.strokes(man, minute), plain.strokes(man, minute));
    }

    /** Often what is so behind the night to come, that something may fit. */
    private void tell(int task, int step, int times) {
        int often = times;
        if (plain.now.hasStep(task, step) && up(4) > 0) {
            PlainModel.World morning = plain.now.copy();
            morning.sleep();
            often = morning.tasks.get(task).steps.get(step).done;
        }
        due("tell " + task + " " + step + " " + often, real.tell(task, step, often), plain.tell(task, step, often));
    }

    private void forget() {
        if (up(3) == 0) {
            due("forget", real.forget(), plain.forget());
        }
    }

    private void fits(int man, int k, int i) {
        ask(() -> due("fits " + man + " " + k + " " + i, real.fits(man, k, i), plain.fits(man, k, i)));
        due("fits " + man + " " + k + " -1", real.fits(man, k, -1), plain.fits(man, k, -1));
    }

    private void suspects(int k) {
        ask(() -> due("suspects " + k, real.suspects(k), plain.suspects(k)));
    }

    private void pairs(int man, int other, int k) {
        ask(() -> due("pairs " + man + " " + other + " " + k, real.pairs(man, other, k), plain.pairs(man, other, k)));
    }

    private void slot(int slot) {
        if (up(2) == 0) {
            due("hold " + slot, bit(real.hold(slot)), plain.hold(slot));
        } else {
            due("restore " + slot, bit(real.restore(slot)), plain.restore(slot));
        }
    }

    private void count(int what) {
        due("count " + what, real.count(what), plain.count(what));
    }

    private void feedSome() {
        int n = up(40) - 2;
        int w = random.nextInt();
        due("feed", real.feed(w, w, w, w, w), plain.feed(w, w, w, w, w));
        due("back " + n, real.back(n), plain.back(n));
    }
}
