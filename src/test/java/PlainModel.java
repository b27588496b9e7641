import java.util.ArrayDeque;
import java.util.ArrayList;
import java.util.Arrays;
import java.util.Deque;
import java.util.HashMap;
import java.util.List;
import java.util.Map;
import java.util.regex.Matcher;
import java.util.regex.Pattern;

/**
 * The document once more, written as plainly as can be and in other ways than SleepWork: a regular
 * expression for the form of a text, trees for laws, every minute of a night gone through. RandomRunsTest
 * compares the two.
 */
final class PlainModel {
    record Token(char kind, String text, int place) { }

    record Fault(int place, int number) { }

    interface Law {
        int of(Map<String, Integer> facts);
    }

    static final class DividedByZero extends RuntimeException {
        private static final long serialVersionUID = 1L;
    }

    static final class Door {
        int from;
        int to;
        int minutes;
        boolean shut;
    }

    static final class Step {
        int minutes;
        int need;
        int gain;
        int spoil;
        int tool = -2;
        int undoes = -2;
        int done;
    }

    static final class Task {
        int room;
        int stuff;
        List<Step> steps = new ArrayList<>();

        boolean ended() {
            return steps.stream().allMatch(s -> s.done >= s.need);
        }

        int worth() {
            int sum = 0;
            for (Step s : steps) {
                for (int i = 1; i <= s.done; i++) {
                    sum += i <= s.need ? s.gain : -s.spoil;
                }
            }
            return sum;
        }
    }

    static final class Man {
        int home;
        int task = -2;
        int step = -2;
        int lastNight;
        int inAll;
        int down = -2;
        Law law = facts -> facts.get("last");
    }

    static final class World {
        int rooms;
        int night = 480;
        int nights;
        List<Door> doors = new ArrayList<>();
        List<Integer> tools = new ArrayList<>();
        List<Task> tasks = new ArrayList<>();
        List<Man> men = new ArrayList<>();

        World copy() {
            World w = new World();
            w.rooms = rooms;
            w.night = night;
            w.nights = nights;
            w.tools.addAll(tools);
            for (Door d : doors) {
                Door e = new Door();
                e.from = d.from;
                e.to = d.to;
                e.minutes = d.minutes;
                e.shut = d.shut;
                w.doors.add(e);
            }
            for (Task t : tasks) {
                Task u = new Task();
                u.room = t.room;
                u.stuff = t.stuff;
                for (Step s : t.steps) {
                    Step r = new Step();
                    r.minutes = s.minutes;
                    r.need = s.need;
                    r.gain = s.gain;
                    r.spoil = s.spoil;
                    r.tool = s.tool;
                    r.undoes = s.undoes;
                    r.done = s.done;
                    u.steps.add(r);
                }
                w.tasks.add(u);
            }
            for (Man m : men) {
                Man n = new Man();
                n.home = m.home;
                n.task = m.task;
                n.step = m.step;
                n.lastNight = m.lastNight;
                n.inAll = m.inAll;
                n.down = m.down;
                n.law = m.law;
                w.men.add(n);
            }
            return w;
        }

        int worth() {
            return tasks.stream().mapToInt(Task::worth).sum();
        }

        /** -2: there is no way. */
        int way(int a, int b) {
            int[] least = new int[rooms];
            Arrays.fill(least, 1 << 20);
            least[a] = 0;
            for (int round = 0; round < rooms; round++) {
                for (Door d : doors) {
                    if (!d.shut) {
                        least[d.to] = Math.min(least[d.to], least[d.from] + d.minutes);
                        least[d.from] = Math.min(least[d.from], least[d.to] + d.minutes);
                    }
                }
            }
            return least[b] >= 1 << 20 ? -2 : least[b];
        }

        boolean hasStep(int t, int s) {
            return t >= 0 && t < tasks.size() && s >= 0 && s < tasks.get(t).steps.size();
        }

        /** Goes minute by minute; strokes[man][minute] is how many steps were over by then. */
        int[][] sleep() {
            int n = men.size();
            int[][] strokes = new int[n][night + 1];
            int[] arrival = new int[n];
            int[] last = new int[n];
            int[] doing = new int[n];
            int[] over = new int[n];
            int[] times = new int[n];
            boolean[] lying = new boolean[n];
            boolean[] ended = new boolean[n];
            boolean[] used = new boolean[tools.size()];
            for (int m = 0; m < n; m++) {
                Man man = men.get(m);
                man.down = -2;
                last[m] = man.step;
                doing[m] = -1;
                arrival[m] = man.task < 0 ? -2 : way(man.home, tasks.get(man.task).room);
                if (arrival[m] < 0) {
                    lying[m] = true;
                    if (man.task >= 0) {
                        man.down = 0;
                    }
                }
            }
            for (int minute = 0; minute <= night; minute++) {
                for (int m = 0; m < n; m++) {
                    if (doing[m] >= 0 && over[m] == minute) {
                        Task t = tasks.get(men.get(m).task);
                        Step s = t.steps.get(doing[m]);
                        s.done++;
                        if (s.undoes >= 0) {
                            Step u = t.steps.get(s.undoes);
                            u.done = Math.max(0, u.done - 1);
                        }
                        if (s.tool >= 0) {
                            used[s.tool] = false;
                        }
                        last[m] = doing[m];
                        times[m]++;
                        doing[m] = -1;
                    }
                }
                for (int m = 0; m < n && minute < night; m++) {
                    if (lying[m] || doing[m] >= 0 || minute < arrival[m]) {
                        continue;
                    }
                    Man man = men.get(m);
                    Task t = tasks.get(man.task);
                    ended[m] = t.ended();
                    if (ended[m] || t.stuff == 0) {
                        lying[m] = true;
                        man.down = minute;
                        continue;
                    }
                    Map<String, Integer> facts = new HashMap<>();
                    facts.put("last", last[m]);
                    facts.put("done", t.steps.get(last[m]).done);
                    facts.put("steps", t.steps.size());
                    facts.put("minute", minute);
                    facts.put("stuff", t.stuff);
                    facts.put("times", times[m]);
                    int chosen;
                    try {
                        chosen = man.law.of(facts);
                    } catch (DividedByZero e) {
                        chosen = last[m];
                    }
                    chosen = chosen < 0 ? 0 : chosen >= t.steps.size() ? t.steps.size() - 1 : chosen;
                    Step s = t.steps.get(chosen);
                    if (s.tool >= 0 && tools.get(s.tool) != t.room && tools.get(s.tool) != 100 + m) {
                        lying[m] = true;
                        man.down = minute;
                    } else if (s.tool < 0 || !used[s.tool]) {
                        if (s.tool >= 0) {
                            used[s.tool] = true;
                        }
                        t.stuff--;
                        doing[m] = chosen;
                        over[m] = minute + s.minutes;
                    }
                }
                for (int m = 0; m < n; m++) {
                    strokes[m][minute] = times[m];
                }
            }
            for (int m = 0; m < n; m++) {
                Man man = men.get(m);
                man.lastNight = times[m];
                man.inAll += times[m];
                if (ended[m] || man.task < 0) {
                    man.task = -2;
                    man.step = -2;
                } else {
                    man.step = last[m];
                }
            }
            nights++;
            return strokes;
        }

        int gain() {
            World w = copy();
            w.sleep();
            return w.worth() - worth();
        }

        /** All that may be left: nothing first, then by tasks and steps; as best() tells them. */
        List<Integer> leavings() {
            List<Integer> all = new ArrayList<>();
            all.add(-2);
            for (int t = 0; t < tasks.size(); t++) {
                for (int s = 0; s < tasks.get(t).steps.size(); s++) {
                    all.add(10 * t + s);
                }
            }
            return all;
        }

        World leaving(int man, int code) {
            World w = copy();
            w.men.get(man).task = code < 0 ? -2 : code / 10;
            w.men.get(man).step = code < 0 ? -2 : code % 10;
            return w;
        }

        int left(int man) {
            return men.get(man).task < 0 ? -2 : 10 * men.get(man).task + men.get(man).step;
        }
    }

    static final String WORDS =
        "room door tool task step man law night shut with undoes left if then else last done steps minute stuff times";
    // One letter for each word, so that a text's form is a string.
    static final String WORD_LETTERS = "RDTKSMLNHWUFIJEvvvvvv";
    static final Pattern TOKEN = Pattern.compile("[a-z]+|[0-9]+|[^a-z0-9\\t\\n\\r ]");
    static final Pattern FORM = form();

    static Pattern form() {
        String unit = "[iv]";
        for (int depth = 0; depth < 6; depth++) {
            unit = "(?:[iv]|\\(" + unit + "(?:[-+*/]" + unit + ")*\\))";
        }
        String e = unit + "(?:[-+*/]" + unit + ")*";
        return Pattern.compile("(?:Rn;|Dnni(?:H)?;|Tnn;|Knni;|Sniiii(?:Wn)?(?:Ui)?;|Mnn(?:Fni)?;|Ni;|"
            + "Ln=(?:I" + e + "<" + e + "J" + e + "E)*" + e + ";)*");
    }

    byte[] tape = new byte[0];
    World now = new World();
    Deque<World> past = new ArrayDeque<>();
    World[] slots = new World[3];
    List<int[]> told = new ArrayList<>();
    int place = -1;

    static List<Token> tokens(String text) {
        List<Token> all = new ArrayList<>();
        List<String> words = List.of(WORDS.split(" "));
        Matcher m = TOKEN.matcher(text);
        while (m.find()) {
            String t = m.group();
            char c = t.charAt(0);
            char kind;
            if (c >= 'a' && c <= 'z') {
                kind = words.contains(t) ? WORD_LETTERS.charAt(words.indexOf(t)) : t.length() > 8 ? '?' : 'n';
            } else if (c >= '0' && c <= '9') {
                kind = t.length() > 4 ? '?' : 'i';
            } else {
                kind = ";=+-*/<()".indexOf(c) >= 0 ? c : '?';
            }
            all.add(new Token(kind, t, m.start()));
        }
        return all;
    }

    /** What is told one after the other, each with its sign ; at its end but perhaps the last. */
    static List<List<Token>> tells(List<Token> tokens) {
        List<List<Token>> all = new ArrayList<>();
        boolean fresh = true;
        for (Token t : tokens) {
            if (fresh) {
                all.add(new ArrayList<>());
            }
            all.get(all.size() - 1).add(t);
            fresh = t.kind == ';';
        }
        return all;
    }

    static Fault first(List<Fault> faults) {
        Fault least = null;
        for (Fault f : faults) {
            if (least == null || f.place < least.place || f.place == least.place && f.number < least.number) {
                least = f;
            }
        }
        return least;
    }

    static Fault fault(String text) {
        List<Token> tokens = tokens(text);
        List<Fault> faults = new ArrayList<>();
        StringBuilder form = new StringBuilder();
        List<Token> good = new ArrayList<>();
        boolean bad = false;
        int depth = 0;
        for (int i = 0; i < tokens.size() && !bad && good.size() <= 400; i++) {
            Token t = tokens.get(i);
            form.append(t.kind);
            depth += t.kind == '(' ? 1 : t.kind == ')' ? -1 : 0;
            if (t.kind == '(' && depth == 7) {
                // The form's pattern goes no deeper: ( is judged as a number there would be.
                String one = form.substring(0, form.length() - 1) + "i";
                Matcher m = FORM.matcher(one);
                boolean fine = m.matches() || m.hitEnd();
                faults.add(new Fault(t.place, fine ? 2 : 1));
                bad = true;
                continue;
            }
            Matcher m = FORM.matcher(form);
            if (t.kind == '?' || !m.matches() && !m.hitEnd()) {
                faults.add(new Fault(t.place, 1));
                bad = true;
            } else {
                good.add(t);
            }
        }
        if (!bad && good.size() <= 400 && !FORM.matcher(form).matches()) {
            faults.add(new Fault(text.length(), 1));
        }
        if (good.size() > 400) {
            faults.add(new Fault(good.get(400).place, 2));
        }
        addFullness(good, faults);
        if (!faults.isEmpty()) {
            return first(faults);
        }
        return first(lateFaults(tells(good)));
    }

    static void addFullness(List<Token> good, List<Fault> faults) {
        Map<Character, Integer> most = Map.of('R', 8, 'D', 12, 'T', 6, 'K', 6, 'M', 6, 'L', 8);
        Map<Character, Integer> there = new HashMap<>();
        Map<String, Integer> steps = new HashMap<>();
        for (List<Token> tell : tells(good)) {
            Token head = tell.get(0);
            if (there.merge(head.kind, 1, Integer::sum) > most.getOrDefault(head.kind, 999)) {
                faults.add(new Fault(head.place, 2));
            }
            if (head.kind == 'K' && tell.get(tell.size() - 1).kind == ';') {
                steps.putIfAbsent(tell.get(1).text, 0);
            }
            if (head.kind == 'S' && tell.size() > 1 && steps.containsKey(tell.get(1).text)
                && steps.merge(tell.get(1).text, 1, Integer::sum) > 6) {
                faults.add(new Fault(head.place, 2));
            }
            int ifs = 0;
            for (Token t : tell) {
                if (t.kind == 'I' && ++ifs == 5) {
                    faults.add(new Fault(t.place, 2));
                }
            }
        }
    }

    static List<Fault> lateFaults(List<List<Token>> tells) {
        List<Fault> faults = new ArrayList<>();
        List<String> rooms = new ArrayList<>();
        List<String> tools = new ArrayList<>();
        List<String> men = new ArrayList<>();
        Map<String, Integer> tasks = new HashMap<>();
        for (List<Token> tell : tells) {
            char head = tell.get(0).kind;
            Token name = tell.get(1);
            if ("RTKM".indexOf(head) >= 0 && (rooms.contains(name.text) || tools.contains(name.text)
                || men.contains(name.text) || tasks.containsKey(name.text))) {
                faults.add(new Fault(name.place, 3));
            }
            switch (head) {
                case 'R' -> rooms.add(name.text);
                case 'D' -> {
                    known(rooms.contains(name.text), name, faults);
                    known(rooms.contains(tell.get(2).text), tell.get(2), faults);
                    if (name.text.equals(tell.get(2).text)) {
                        faults.add(new Fault(tell.get(2).place, 5));
                    }
                    range(tell.get(3), 1, 60, faults);
                }
                case 'T' -> {
                    known(rooms.contains(tell.get(2).text), tell.get(2), faults);
                    tools.add(name.text);
                }
                case 'K' -> {
                    known(rooms.contains(tell.get(2).text), tell.get(2), faults);
                    range(tell.get(3), 0, 999, faults);
                    tasks.putIfAbsent(name.text, 0);
                }
                case 'S' -> {
                    known(tasks.containsKey(name.text), name, faults);
                    range(tell.get(2), 1, 120, faults);
                    for (int i = 3; i < 6; i++) {
                        range(tell.get(i), 0, 99, faults);
                    }
                    for (int i = 6; i + 1 < tell.size(); i++) {
                        if (tell.get(i).kind == 'W') {
                            known(tools.contains(tell.get(i + 1).text), tell.get(i + 1), faults);
                        }
                        if (tell.get(i).kind == 'U' && tasks.containsKey(name.text)) {
                            range(tell.get(i + 1), 0, tasks.get(name.text) - 1, faults);
                        }
                    }
                    tasks.computeIfPresent(name.text, (n, c) -> c + 1);
                }
                case 'M' -> {
                    known(rooms.contains(tell.get(2).text), tell.get(2), faults);
                    if (tell.get(3).kind == 'F') {
                        Token t = tell.get(4);
                        known(tasks.containsKey(t.text), t, faults);
                        if (tasks.containsKey(t.text)) {
                            range(tell.get(5), 0, tasks.get(t.text) - 1, faults);
                        }
                    }
                    men.add(name.text);
                }
                case 'L' -> known(men.contains(name.text), name, faults);
                default -> range(name, 1, 600, faults);
            }
        }
        return faults;
    }

    static void known(boolean is, Token at, List<Fault> faults) {
        if (!is) {
            faults.add(new Fault(at.place, 4));
        }
    }

    static void range(Token at, int least, int most, List<Fault> faults) {
        int n = Integer.parseInt(at.text);
        if (n < least || n > most) {
            faults.add(new Fault(at.place, 5));
        }
    }

    static World build(String text) {
        World w = new World();
        List<String> rooms = new ArrayList<>();
        List<String> tools = new ArrayList<>();
        List<String> men = new ArrayList<>();
        List<String> tasks = new ArrayList<>();
        for (List<Token> tell : tells(tokens(text))) {
            String name = tell.get(1).text;
            String second = tell.get(2).text;
            switch (tell.get(0).text) {
                case "room" -> rooms.add(name);
                case "door" -> {
                    Door d = new Door();
                    d.from = rooms.indexOf(name);
                    d.to = rooms.indexOf(second);
                    d.minutes = Integer.parseInt(tell.get(3).text);
                    d.shut = tell.get(4).text.equals("shut");
                    w.doors.add(d);
                }
                case "tool" -> {
                    tools.add(name);
                    w.tools.add(rooms.indexOf(second));
                }
                case "task" -> {
                    tasks.add(name);
                    Task t = new Task();
                    t.room = rooms.indexOf(second);
                    t.stuff = Integer.parseInt(tell.get(3).text);
                    w.tasks.add(t);
                }
                case "step" -> {
                    Step s = new Step();
                    s.minutes = Integer.parseInt(second);
                    s.need = Integer.parseInt(tell.get(3).text);
                    s.gain = Integer.parseInt(tell.get(4).text);
                    s.spoil = Integer.parseInt(tell.get(5).text);
                    for (int i = 6; i + 1 < tell.size(); i++) {
                        if (tell.get(i).text.equals("with")) {
                            s.tool = tools.indexOf(tell.get(i + 1).text);
                        }
                        if (tell.get(i).text.equals("undoes")) {
                            s.undoes = Integer.parseInt(tell.get(i + 1).text);
                        }
                    }
                    w.tasks.get(tasks.indexOf(name)).steps.add(s);
                }
                case "man" -> {
                    men.add(name);
                    Man m = new Man();
                    m.home = rooms.indexOf(second);
                    if (tell.get(3).text.equals("left")) {
                        m.task = tasks.indexOf(tell.get(4).text);
                        m.step = Integer.parseInt(tell.get(5).text);
                    }
                    w.men.add(m);
                }
                case "law" -> w.men.get(men.indexOf(name)).law = new LawReader(tell).law();
                default -> w.night = Integer.parseInt(name);
            }
        }
        w.rooms = rooms.size();
        return w;
    }

    static final class LawReader {
        final List<Token> tell;
        int at = 3;

        LawReader(List<Token> tell) {
            this.tell = tell;
        }

        boolean next(String s) {
            if (tell.get(at).text.equals(s)) {
                at++;
                return true;
            }
            return false;
        }

        Law law() {
            if (!next("if")) {
                return sum();
            }
            Law a = sum();
            next("<");
            Law b = sum();
            next("then");
            Law c = sum();
            next("else");
            Law d = law();
            return f -> a.of(f) < b.of(f) ? c.of(f) : d.of(f);
        }

        Law sum() {
            Law all = part();
            while (true) {
                Law left = all;
                if (next("+")) {
                    Law right = part();
                    all = f -> left.of(f) + right.of(f);
                } else if (next("-")) {
                    Law right = part();
                    all = f -> left.of(f) - right.of(f);
                } else {
                    return all;
                }
            }
        }

        Law part() {
            Law all = unit();
            while (true) {
                Law left = all;
                if (next("*")) {
                    Law right = unit();
                    all = f -> left.of(f) * right.of(f);
                } else if (next("/")) {
                    Law right = unit();
                    all = f -> quotient(left.of(f), right.of(f));
                } else {
                    return all;
                }
            }
        }

        static int quotient(int a, int b) {
            if (b == 0) {
                throw new DividedByZero();
            }
            return a / b;
        }

        Law unit() {
            if (next("(")) {
                Law inner = sum();
                next(")");
                return inner;
            }
            String t = tell.get(at++).text;
            if (Character.isDigit(t.charAt(0))) {
                int n = Integer.parseInt(t);
                return f -> n;
            }
            return f -> f.get(t);
        }
    }

    int feed(int... words) {
        if (tape.length > 1980) {
            return -1;
        }
        byte[] more = Arrays.copyOf(tape, tape.length + 20);
        for (int i = 0; i < 20; i++) {
            more[tape.length + i] = (byte) (words[i / 4] >>> 24 - i % 4 * 8);
        }
        tape = more;
        return tape.length;
    }

    int back(int n) {
        if (n < 0 || n > tape.length) {
            return -1;
        }
        tape = Arrays.copyOf(tape, tape.length - n);
        return tape.length;
    }

    int read() {
        StringBuilder text = new StringBuilder();
        for (byte b : tape) {
            text.append((char) (b & 255));
        }
        tape = new byte[0];
        Fault f = fault(text.toString());
        place = f == null ? -1 : f.place;
        if (f == null) {
            now = build(text.toString());
            past.clear();
            told.clear();
            Arrays.fill(slots, null);
        }
        return f == null ? 0 : f.number;
    }

    static boolean within(int i, List<?> list) {
        return i >= 0 && i < list.size();
    }

    int task(int task, int what) {
        if (!within(task, now.tasks) || what < 0 || what > 4) {
            return -1;
        }
        Task t = now.tasks.get(task);
        return new int[] {t.room, t.steps.size(), t.stuff, t.worth(), t.ended() ? 1 : 0}[what];
    }

    int step(int task, int step, int what) {
        if (!now.hasStep(task, step) || what < 0 || what > 6) {
            return -1;
        }
        Step s = now.tasks.get(task).steps.get(step);
        return new int[] {s.done, s.minutes, s.need, s.gain, s.spoil, s.tool, s.undoes}[what];
    }

    int man(int man, int what) {
        if (!within(man, now.men) || what < 0 || what > 5) {
            return -1;
        }
        Man m = now.men.get(man);
        return new int[] {m.home, m.task, m.step, m.lastNight, m.inAll, m.down}[what];
    }

    int tool(int tool) {
        return within(tool, now.tools) ? now.tools.get(tool) : -1;
    }

    int way(int a, int b) {
        return a < 0 || b < 0 || a >= now.rooms || b >= now.rooms ? -1 : now.way(a, b);
    }

    int leave(int man, int task, int step) {
        boolean nothing = task == -1 && step == -1;
        if (!within(man, now.men) || !nothing && !now.hasStep(task, step)) {
            return 0;
        }
        now.men.get(man).task = nothing ? -2 : task;
        now.men.get(man).step = nothing ? -2 : step;
        return 1;
    }

    int work(int task, int step) {
        if (!now.hasStep(task, step) || now.tasks.get(task).stuff == 0) {
            return 0;
        }
        Task t = now.tasks.get(task);
        t.stuff--;
        Step s = t.steps.get(step);
        s.done++;
        if (s.undoes >= 0 && t.steps.get(s.undoes).done > 0) {
            t.steps.get(s.undoes).done--;
        }
        return 1;
    }

    int lay(int tool, int room) {
        if (!within(tool, now.tools) || room < 0 || room >= now.rooms) {
            return 0;
        }
        now.tools.set(tool, room);
        return 1;
    }

    int give(int tool, int man) {
        if (!within(tool, now.tools) || !within(man, now.men)) {
            return 0;
        }
        now.tools.set(tool, 100 + man);
        return 1;
    }

    int bar(int door, boolean shut) {
        if (!within(door, now.doors)) {
            return 0;
        }
        now.doors.get(door).shut = shut;
        return 1;
    }

    int night() {
        past.addLast(now.copy());
        if (past.size() > 20) {
            past.removeFirst();
        }
        int before = now.worth();
        now.sleep();
        return now.worth() - before;
    }

    int undo() {
        if (past.isEmpty()) {
            return 0;
        }
        now = past.removeLast();
        return 1;
    }

    int gain() {
        return now.gain();
    }

    int[] bestFor(int man) {
        int[] best = null;
        for (int code : now.leavings()) {
            int g = now.leaving(man, code).gain();
            if (best == null || g > best[0]) {
                best = new int[] {g, code};
            }
        }
        return best;
    }

    int best(int man, int what) {
        return !within(man, now.men) || what < 0 || what > 1 ? -1 : bestFor(man)[what];
    }

    int bestOfTwo(int man, int other, int what) {
        if (!within(man, now.men) || !within(other, now.men) || man == other || what < 0 || what > 2) {
            return -1;
        }
        int[] best = null;
        for (int one : now.leavings()) {
            World w = now.leaving(man, one);
            for (int two : now.leavings()) {
                int g = w.leaving(other, two).gain();
                if (best == null || g > best[0]) {
                    best = new int[] {g, one, two};
                }
            }
        }
        return best[what];
    }

    int hire(int man) {
        return within(man, now.men) ? bestFor(man)[0] - now.leaving(man, -2).gain() : -1000000;
    }

    int hide(int tool, int what) {
        if (!within(tool, now.tools) || what < 0 || what > 1) {
            return -1;
        }
        int[] best = null;
        for (int spot = 0; spot < 100 + now.men.size(); spot++) {
            if (spot < now.rooms || spot >= 100) {
                World w = now.copy();
                w.tools.set(tool, spot);
                int g = w.gain();
                if (best == null || g > best[0]) {
                    best = new int[] {g, spot};
                }
            }
        }
        return best[what];
    }

    int bars(int what) {
        if (what < 0 || what > 1) {
            return -1;
        }
        int[] best = null;
        for (int set = 0; set < 1 << now.doors.size(); set++) {
            World w = now.copy();
            for (int d = 0; d < w.doors.size(); d++) {
                w.doors.get(d).shut = (set >> d & 1) == 1;
            }
            int g = w.gain();
            if (best == null || g > best[0]
                || g == best[0] && Integer.bitCount(set) < Integer.bitCount(best[1])) {
                best = new int[] {g, set};
            }
        }
        return best[what];
    }

    int where(int man, int minute) {
        if (!within(man, now.men) || minute < 0 || minute > now.night) {
            return -1;
        }
        Man m = now.men.get(man);
        if (m.task < 0) {
            return m.home;
        }
        int room = now.tasks.get(m.task).room;
        int way = now.way(m.home, room);
        return way >= 0 && way <= minute ? room : m.home;
    }

    int strokes(int man, int minute) {
        return !within(man, now.men) || minute < 0 || minute > now.night ? -1 : now.copy().sleep()[man][minute];
    }

    int tell(int task, int step, int times) {
        if (!now.hasStep(task, step) || times < 0 || times > 999 || told.size() == 30) {
            return -1;
        }
        told.add(new int[] {task, step, times});
        return told.size() - 1;
    }

    int forget() {
        int n = told.size();
        told.clear();
        return n;
    }

    boolean fitting(World w, int k) {
        World morning = w.copy();
        morning.sleep();
        return told.subList(0, k).stream().allMatch(t -> morning.tasks.get(t[0]).steps.get(t[1]).done == t[2]);
    }

    int fits(int man, int k, int i) {
        if (!within(man, now.men) || k < 0 || k > told.size()) {
            return -1;
        }
        List<Integer> all = new ArrayList<>();
        for (int code : now.leavings()) {
            if (fitting(now.leaving(man, code), k)) {
                all.add(code);
            }
        }
        return i == -1 ? all.size() : within(i, all) ? all.get(i) : -1;
    }

    int suspects(int k) {
        if (k < 0 || k > told.size()) {
            return -1;
        }
        int bits = 0;
        for (int m = 0; m < now.men.size(); m++) {
            for (int code : now.leavings()) {
                if (code != now.left(m) && fitting(now.leaving(m, code), k)) {
                    bits |= 1 << m;
                }
            }
        }
        return bits;
    }

    int pairs(int man, int other, int k) {
        if (!within(man, now.men) || !within(other, now.men) || man == other || k < 0 || k > told.size()) {
            return -1;
        }
        int n = 0;
        for (int one : now.leavings()) {
            World w = now.leaving(man, one);
            for (int two : now.leavings()) {
                n += fitting(w.leaving(other, two), k) ? 1 : 0;
            }
        }
        return n;
    }

    int hold(int slot) {
        if (slot < 0 || slot > 2) {
            return 0;
        }
        slots[slot] = now.copy();
        return 1;
    }

    int restore(int slot) {
        if (slot < 0 || slot > 2 || slots[slot] == null) {
            return 0;
        }
        now = slots[slot].copy();
        past.clear();
        return 1;
    }

    int count(int what) {
        if (what < 0 || what > 12) {
            return -1;
        }
        int shut = (int) now.doors.stream().filter(d -> d.shut).count();
        int held = (int) Arrays.stream(slots).filter(s -> s != null).count();
        return new int[] {now.rooms, now.doors.size(), now.tools.size(), now.tasks.size(), now.men.size(), now.night,
            now.nights, shut, now.worth(), tape.length, past.size(), told.size(), held}[what];
    }
}
