import java.util.Arrays;

/** People who go on asleep with what they left, as told by a text: their nights, mornings and evenings. */
public final class SleepWork {

    public static final int NONE = -1;

    private static final int NOTHING = -2;
    private static final int NO_HIRE = -1000000;
    private static final int HAD = 100;
    private static final int SLOTS = 3;

    private static final int MOST_ROOMS = 8;
    private static final int MOST_DOORS = 12;
    private static final int MOST_TOOLS = 6;
    private static final int MOST_TASKS = 6;
    private static final int MOST_STEPS = 6;
    private static final int MOST_MEN = 6;
    private static final int ALL_STEPS = MOST_TASKS * MOST_STEPS;

    // Stands for no way at all; above every sum of minutes, and twice it is still an int.
    private static final int FAR = 1000000;

    private final Tape tape = new Tape();
    private final State now = new State();
    private final State draftState = new State();
    private final Past past = new Past();
    private final Told told = new Told();
    private final State[] slots = new State[SLOTS];
    private final Evening evening;
    private final Reader reader;
    private House house = new House();
    private House draft = new House();
    private int held;
    private int faultPlace = NONE;

    public SleepWork() {
        for (int slot = 0; slot < SLOTS; slot++) {
            slots[slot] = new State();
        }
        evening = new Evening(house, now, told);
        reader = new Reader(draft, draftState);
    }

    public int feed(int a, int b, int c, int d, int e) {
        if (!tape.hasSpace()) {
            return NONE;
        }
        tape.addWord(a);
        tape.addWord(b);
        tape.addWord(c);
        tape.addWord(d);
        tape.addWord(e);
        return tape.size;
    }

    public int back(int n) {
        if (n < 0 || n > tape.size) {
            return NONE;
        }
        tape.size -= n;
        return tape.size;
    }

    public int read() {
        int fault = reader.readText(tape, draft, draftState);
        faultPlace = reader.placeOfFault();
        tape.size = 0;
        if (fault == 0) {
            moveIn();
        }
        return fault;
    }

    private void moveIn() {
        House old = house;
        house = draft;
        draft = old;
        now.copy(draftState);
        past.size = 0;
        told.size = 0;
        held = 0;
        evening.enter(house);
    }

    public int place() {
        return faultPlace;
    }

    public int task(int task, int what) {
        if (task < 0 || task >= house.tasks) {
            return NONE;
        }
        switch (what) {
            case 0:
                return house.taskRoom[task];
            case 1:
                return house.stepCount[task];
            case 2:
                return now.stuff[task];
            case 3:
                return house.worth(now, task);
            case 4:
                return house.isEnded(now, task) ? 1 : 0;
            default:
                return NONE;
        }
    }

    public int step(int task, int step, int what) {
        if (!house.hasStep(task, step)) {
            return NONE;
        }
        int at = task * MOST_STEPS + step;
        switch (what) {
            case 0:
                return now.done[at];
            case 1:
                return house.stepMinutes[at];
            case 2:
                return house.need[at];
            case 3:
                return house.won[at];
            case 4:
                return house.spoilt[at];
            case 5:
                return house.stepTool[at];
            case 6:
                return house.undone[at];
            default:
                return NONE;
        }
    }

    public int man(int man, int what) {
        if (!isMan(man)) {
            return NONE;
        }
        int left = now.left[man];
        switch (what) {
            case 0:
                return house.home[man];
            case 1:
                return left < 0 ? NOTHING : left / MOST_STEPS;
            case 2:
                return left < 0 ? NOTHING : left % MOST_STEPS;
            case 3:
                return now.lastStrokes[man];
            case 4:
                return now.allStrokes[man];
            case 5:
                return now.downAt[man];
            default:
                return NONE;
        }
    }

    private boolean isMan(int man) {
        return man >= 0 && man < house.men;
    }

    private boolean isTool(int tool) {
        return tool >= 0 && tool < house.tools;
    }

    private boolean isRoom(int room) {
        return room >= 0 && room < house.rooms;
    }

    private boolean areTwoMen(int man, int other) {
        return isMan(man) && isMan(other) && man != other;
    }

    private boolean isKnownBy(int k) {
        return k >= 0 && k <= told.size;
    }

    public int tool(int tool) {
        return isTool(tool) ? now.toolAt[tool] : NONE;
    }

    public int way(int room, int other) {
        if (!isRoom(room) || !isRoom(other)) {
            return NONE;
        }
        int minutes = evening.minutesBetween(room, other);
        return minutes >= FAR ? NOTHING : minutes;
    }

    public boolean leave(int man, int task, int step) {
        if (!isMan(man)) {
            return false;
        }
        boolean nothing = task == NONE && step == NONE;
        if (!nothing && !house.hasStep(task, step)) {
            return false;
        }
        now.left[man] = nothing ? NONE : task * MOST_STEPS + step;
        evening.setStale();
        return true;
    }

    public boolean work(int task, int step) {
        if (!house.hasStep(task, step) || now.stuff[task] <= 0) {
            return false;
        }
        now.stuff[task]--;
        house.finish(now, task, step);
        evening.setStale();
        return true;
    }

    public boolean lay(int tool, int room) {
        if (!isTool(tool) || !isRoom(room)) {
            return false;
        }
        now.toolAt[tool] = room;
        evening.setStale();
        return true;
    }

    public boolean give(int tool, int man) {
        if (!isTool(tool) || !isMan(man)) {
            return false;
        }
        now.toolAt[tool] = HAD + man;
        evening.setStale();
        return true;
    }

    public boolean bar(int door, boolean shut) {
        if (door < 0 || door >= house.doors) {
            return false;
        }
        now.shut = shut ? now.shut | 1 << door : now.shut & ~(1 << door);
        evening.setStale();
        return true;
    }

    public int night() {
        past.push(now);
        int before = house.worthOfAll(now);
        evening.goBy();
        return house.worthOfAll(now) - before;
    }

    public boolean undo() {
        if (!past.pull(now)) {
            return false;
        }
        evening.setStale();
        return true;
    }

    public int gain() {
        return evening.gainAsItIs();
    }

    public int best(int man, int what) {
        if (!isMan(man) || what < 0 || what > 1) {
            return NONE;
        }
        evening.seekForOne(man);
        return what == 0 ? evening.mostGain : codeOf(evening.first);
    }

    public int bestOfTwo(int man, int other, int what) {
        if (!areTwoMen(man, other) || what < 0 || what > 2) {
            return NONE;
        }
        evening.seekForTwo(man, other);
        if (what == 0) {
            return evening.mostGain;
        }
        return codeOf(what == 1 ? evening.first : evening.second);
    }

    private static int codeOf(int left) {
        return left < 0 ? NOTHING : 10 * (left / MOST_STEPS) + left % MOST_STEPS;
    }

    public int hire(int man) {
        if (!isMan(man)) {
            return NO_HIRE;
        }
        evening.seekForOne(man);
        return evening.mostGain - evening.idleGain;
    }

    public int hide(int tool, int what) {
        if (!isTool(tool) || house.rooms == 0 || what < 0 || what > 1) {
            return NONE;
        }
        evening.seekHidingPlace(tool);
        return what == 0 ? evening.mostGain : evening.first;
    }

    public int bars(int what) {
        if (what < 0 || what > 1) {
            return NONE;
        }
        evening.seekBars();
        return what == 0 ? evening.mostGain : evening.first;
    }

    public int where(int man, int minute) {
        if (!isMan(man) || minute < 0 || minute > house.minutes) {
            return NONE;
        }
        int home = house.home[man];
        int left = now.left[man];
        if (left < 0) {
            return home;
        }
        int room = house.taskRoom[left / MOST_STEPS];
        return evening.minutesBetween(home, room) <= minute ? room : home;
    }

    public int strokes(int man, int minute) {
        if (!isMan(man) || minute < 0 || minute > house.minutes) {
            return NONE;
        }
        return evening.strokesTill(man, minute);
    }

    public int tell(int task, int step, int times) {
        if (!house.hasStep(task, step) || times < 0 || times > 999 || told.isFull()) {
            return NONE;
        }
        return told.add(task * MOST_STEPS + step, times);
    }

    public int forget() {
        int there = told.size;
        told.size = 0;
        evening.setStale();
        return there;
    }

    public int fits(int man, int k, int i) {
        if (!isMan(man) || !isKnownBy(k) || i < NONE) {
            return NONE;
        }
        evening.seekFits(man, k);
        if (i == NONE) {
            return evening.fitCount;
        }
        return i < evening.fitCount ? codeOf(evening.fit[i]) : NONE;
    }

    public int suspects(int k) {
        return isKnownBy(k) ? evening.suspectBits(k) : NONE;
    }

    public int pairs(int man, int other, int k) {
        if (!areTwoMen(man, other) || !isKnownBy(k)) {
            return NONE;
        }
        return evening.fittingPairs(man, other, k);
    }

    public boolean hold(int slot) {
        if (slot < 0 || slot >= SLOTS) {
            return false;
        }
        slots[slot].copy(now);
        held |= 1 << slot;
        return true;
    }

    public boolean restore(int slot) {
        if (slot < 0 || slot >= SLOTS || (held & 1 << slot) == 0) {
            return false;
        }
        now.copy(slots[slot]);
        past.size = 0;
        evening.setStale();
        return true;
    }

    public int count(int what) {
        switch (what) {
            case 0:
                return house.rooms;
            case 1:
                return house.doors;
            case 2:
                return house.tools;
            case 3:
                return house.tasks;
            case 4:
                return house.men;
            case 5:
                return house.minutes;
            case 6:
                return now.nights;
            case 7:
                return Integer.bitCount(now.shut);
            case 8:
                return house.worthOfAll(now);
            case 9:
                return tape.size;
            case 10:
                return past.size;
            case 11:
                return told.size;
            case 12:
                return Integer.bitCount(held);
            default:
                return NONE;
        }
    }

    /** The bytes that were fed and not read yet. */
    private static final class Tape {
        static final int MOST = 2000;
        static final int FEED = 20;

        final byte[] bytes = new byte[MOST];
        int size;

        boolean hasSpace() {
            return size + FEED <= MOST;
        }

        void addWord(int word) {
            for (int shift = 24; shift >= 0 && size < MOST; shift -= 8) {
                bytes[size] = (byte) (word >> shift);
                size++;
            }
        }
    }

    /** What a text tells and neither night nor hand changes. Rows of steps go by task * MOST_STEPS + step. */
    private static final class House {
        static final int USUAL_NIGHT = 480;

        final int[] doorFrom = new int[MOST_DOORS];
        final int[] doorTo = new int[MOST_DOORS];
        final int[] doorMinutes = new int[MOST_DOORS];
        final int[] taskRoom = new int[MOST_TASKS];
        final int[] stepCount = new int[MOST_TASKS];
        final int[] stepMinutes = new int[ALL_STEPS];
        final int[] need = new int[ALL_STEPS];
        final int[] won = new int[ALL_STEPS];
        final int[] spoilt = new int[ALL_STEPS];
        final int[] stepTool = new int[ALL_STEPS];
        final int[] undone = new int[ALL_STEPS];
        final int[] home = new int[MOST_MEN];
        final Laws laws = new Laws();
        int rooms;
        int doors;
        int tools;
        int tasks;
        int men;
        int minutes;

        House() {
            clear();
        }

        void clear() {
            rooms = 0;
            doors = 0;
            tools = 0;
            tasks = 0;
            men = 0;
            minutes = USUAL_NIGHT;
            // The other rows are written before they are looked at, as these counts go up.
            Arrays.fill(stepCount, 0);
            laws.clear();
        }

        boolean hasStep(int task, int step) {
            return task >= 0 && task < tasks && step >= 0 && step < stepCount[task];
        }

        boolean mayBeLeft(int left) {
            return left < 0 || left % MOST_STEPS < stepCount[left / MOST_STEPS];
        }

        boolean isEnded(State state, int task) {
            int end = task * MOST_STEPS + stepCount[task];
            for (int at = task * MOST_STEPS; at < end; at++) {
                if (state.done[at] < need[at]) {
                    return false;
                }
            }
            return true;
        }

        int worth(State state, int task) {
            int worth = 0;
            int end = task * MOST_STEPS + stepCount[task];
            for (int at = task * MOST_STEPS; at < end; at++) {
                int good = Math.min(state.done[at], need[at]);
                worth += good * won[at] - (state.done[at] - good) * spoilt[at];
            }
            return worth;
        }

        int worthOfAll(State state) {
            int worth = 0;
            for (int task = 0; task < tasks; task++) {
                worth += worth(state, task);
            }
            return worth;
        }

        void finish(State state, int task, int step) {
            int at = task * MOST_STEPS + step;
            state.done[at]++;
            int other = undone[at];
            if (other >= 0 && state.done[task * MOST_STEPS + other] > 0) {
                state.done[task * MOST_STEPS + other]--;
            }
        }
    }

    /** The laws of a text, each as a run of instructions over a stack, one law behind the other. */
    private static final class Laws {
        static final int MOST = 400;
        static final int STOP = 0;
        static final int NUMBER = 1;
        static final int FACT = 2;
        // The other instructions are the signs themselves; '<' goes on elsewhere if it does not hold.

        static final int LAST = 0;
        static final int DONE = 1;
        static final int STEPS = 2;
        static final int MINUTE = 3;
        static final int STUFF = 4;
        static final int TIMES = 5;
        static final int FACTS = 6;

        final int[] start = new int[MOST_MEN];
        private final int[] code = new int[MOST];
        private final int[] value = new int[MOST];
        private final int[] stack = new int[32];
        int length;

        void clear() {
            length = 0;
            Arrays.fill(start, NONE);
        }

        int add(int instruction, int with) {
            if (length < MOST) {
                code[length] = instruction;
                value[length] = with;
                length++;
            }
            return length - 1;
        }

        void aimHere(int jump) {
            if (jump >= 0 && jump < length) {
                value[jump] = length;
            }
        }

        int tellsTo(int man, int[] facts) {
            int at = start[man];
            int top = NONE;
            for (int turn = 0; turn < length && at >= 0 && at < length; turn++) {
                int sign = code[at];
                int with = value[at];
                at++;
                if (sign == STOP) {
                    return top == 0 ? stack[0] : facts[LAST];
                }
                if (sign == NUMBER || sign == FACT) {
                    top++;
                    if (top >= stack.length) {
                        return facts[LAST];
                    }
                    stack[top] = sign == NUMBER ? with : facts[with];
                    continue;
                }
                if (top < 1 || sign == '/' && stack[top] == 0) {
                    return facts[LAST];
                }
                top--;
                if (sign == '<') {
                    at = stack[top] < stack[top + 1] ? at : with;
                    top--;
                } else {
                    stack[top] = joined(sign, stack[top], stack[top + 1]);
                }
            }
            return facts[LAST];
        }

        private static int joined(int sign, int left, int right) {
            switch (sign) {
                case '+':
                    return left + right;
                case '-':
                    return left - right;
                case '*':
                    return left * right;
                default:
                    return right == 0 ? 0 : left / right;
            }
        }
    }

    /** What nights and hands change. What a man left is NONE, or task * MOST_STEPS + step. */
    private static final class State {
        final int[] done = new int[ALL_STEPS];
        final int[] stuff = new int[MOST_TASKS];
        final int[] left = new int[MOST_MEN];
        final int[] toolAt = new int[MOST_TOOLS];
        final int[] lastStrokes = new int[MOST_MEN];
        final int[] allStrokes = new int[MOST_MEN];
        final int[] downAt = new int[MOST_MEN];
        int shut;
        int nights;

        State() {
            clear();
        }

        void clear() {
            Arrays.fill(done, 0);
            Arrays.fill(stuff, 0);
            Arrays.fill(left, NONE);
            Arrays.fill(toolAt, 0);
            Arrays.fill(lastStrokes, 0);
            Arrays.fill(allStrokes, 0);
            Arrays.fill(downAt, NOTHING);
            shut = 0;
            nights = 0;
        }

        void copy(State other) {
            System.arraycopy(other.done, 0, done, 0, ALL_STEPS);
            System.arraycopy(other.stuff, 0, stuff, 0, MOST_TASKS);
            System.arraycopy(other.left, 0, left, 0, MOST_MEN);
            System.arraycopy(other.toolAt, 0, toolAt, 0, MOST_TOOLS);
            System.arraycopy(other.lastStrokes, 0, lastStrokes, 0, MOST_MEN);
            System.arraycopy(other.allStrokes, 0, allStrokes, 0, MOST_MEN);
            System.arraycopy(other.downAt, 0, downAt, 0, MOST_MEN);
            shut = other.shut;
            nights = other.nights;
        }
    }

    /** The states ahead of the last nights, the oldest going as newer ones come. */
    private static final class Past {
        static final int MOST = 20;

        private final State[] evenings = new State[MOST];
        private int oldest;
        int size;

        Past() {
            for (int i = 0; i < MOST; i++) {
                evenings[i] = new State();
            }
        }

        void push(State state) {
            if (size == MOST) {
                oldest = (oldest + 1) % MOST;
            } else {
                size++;
            }
            evenings[(oldest + size - 1) % MOST].copy(state);
        }

        boolean pull(State state) {
            if (size == 0) {
                return false;
            }
            size--;
            state.copy(evenings[(oldest + size) % MOST]);
            return true;
        }
    }

    /** What was found in the morning. */
    private static final class Told {
        static final int MOST = 30;

        private final int[] step = new int[MOST];
        private final int[] times = new int[MOST];
        int size;

        boolean isFull() {
            return size >= MOST;
        }

        int add(int at, int often) {
            step[size] = at;
            times[size] = often;
            size++;
            return size - 1;
        }

        boolean isSoIn(State state, int k) {
            for (int i = 0; i < k && i < size; i++) {
                if (state.done[step[i]] != times[i]) {
                    return false;
                }
            }
            return true;
        }
    }

    /** The fewest minutes between rooms, kept till other doors are shut. */
    private static final class Ways {
        private final int[] minutes = new int[MOST_ROOMS * MOST_ROOMS];
        private int knownShut = NONE;

        void drop() {
            knownShut = NONE;
        }

        int between(House house, int shut, int from, int to) {
            if (shut != knownShut) {
                takeDoors(house, shut);
                joinWays(house.rooms);
                knownShut = shut;
            }
            return minutes[from * MOST_ROOMS + to];
        }

        private void takeDoors(House house, int shut) {
            Arrays.fill(minutes, FAR);
            for (int room = 0; room < house.rooms; room++) {
                minutes[room * MOST_ROOMS + room] = 0;
            }
            for (int door = 0; door < house.doors; door++) {
                if ((shut & 1 << door) == 0) {
                    int there = house.doorFrom[door] * MOST_ROOMS + house.doorTo[door];
                    int back = house.doorTo[door] * MOST_ROOMS + house.doorFrom[door];
                    int least = Math.min(minutes[there], house.doorMinutes[door]);
                    minutes[there] = least;
                    minutes[back] = least;
                }
            }
        }

        private void joinWays(int rooms) {
            for (int over = 0; over < rooms; over++) {
                for (int from = 0; from < rooms; from++) {
                    int first = minutes[from * MOST_ROOMS + over];
                    for (int to = 0; to < rooms && first < FAR; to++) {
                        int sum = first + minutes[over * MOST_ROOMS + to];
                        if (sum < minutes[from * MOST_ROOMS + to]) {
                            minutes[from * MOST_ROOMS + to] = sum;
                        }
                    }
                }
            }
        }
    }

    /** A night by minutes. A man's due minute is the next one at which anything can happen with him. */
    private static final class Sleep {
        final Ways ways = new Ways();
        private final int[] due = new int[MOST_MEN];
        private final int[] doing = new int[MOST_MEN];
        private final int[] last = new int[MOST_MEN];
        private final int[] times = new int[MOST_MEN];
        private final int[] sawEnd = new int[MOST_MEN];
        private final int[] inUse = new int[MOST_TOOLS];
        private final int[] facts = new int[Laws.FACTS];
        private House house;
        private State state;

        Sleep(House firstHouse, State firstState) {
            house = firstHouse;
            state = firstState;
        }

        /** Lets the state's night go by till a minute at which no step begins any more. */
        void goTill(int end, House inHouse, State inState) {
            house = inHouse;
            state = inState;
            Arrays.fill(inUse, 0);
            getUp();
            int minute = nextMinute();
            for (int turn = 0; turn <= end && minute <= end; turn++) {
                finishAll(minute);
                for (int man = 0; man < house.men && minute < end; man++) {
                    if (due[man] == minute) {
                        begin(man, minute);
                    }
                }
                minute = minute < end ? nextMinute() : FAR;
            }
            wakeUp();
        }

        private void getUp() {
            for (int man = 0; man < house.men; man++) {
                int left = state.left[man];
                doing[man] = NONE;
                times[man] = 0;
                sawEnd[man] = 0;
                due[man] = FAR;
                state.downAt[man] = NOTHING;
                if (left >= 0) {
                    last[man] = left % MOST_STEPS;
                    int room = house.taskRoom[left / MOST_STEPS];
                    due[man] = ways.between(house, state.shut, house.home[man], room);
                    if (due[man] >= FAR) {
                        state.downAt[man] = 0;
                    }
                }
            }
        }

        private int nextMinute() {
            int next = FAR;
            for (int man = 0; man < house.men; man++) {
                next = Math.min(next, due[man]);
            }
            return next;
        }

        private void finishAll(int minute) {
            for (int man = 0; man < house.men; man++) {
                if (due[man] == minute && doing[man] >= 0) {
                    int task = state.left[man] / MOST_STEPS;
                    int step = doing[man];
                    house.finish(state, task, step);
                    int tool = house.stepTool[task * MOST_STEPS + step];
                    if (tool >= 0) {
                        inUse[tool] = 0;
                    }
                    last[man] = step;
                    times[man]++;
                    doing[man] = NONE;
                }
            }
        }

        private void begin(int man, int minute) {
            int task = state.left[man] / MOST_STEPS;
            boolean ended = house.isEnded(state, task);
            if (ended || state.stuff[task] <= 0) {
                sawEnd[man] = ended ? 1 : 0;
                lieDown(man, minute);
                return;
            }
            int step = chosenStep(man, task, minute);
            int tool = house.stepTool[task * MOST_STEPS + step];
            if (tool >= 0) {
                int place = state.toolAt[tool];
                if (place != HAD + man && place != house.taskRoom[task]) {
                    lieDown(man, minute);
                    return;
                }
                if (inUse[tool] != 0) {
                    due[man] = minute + 1;
                    return;
                }
                inUse[tool] = 1;
            }
            state.stuff[task]--;
            doing[man] = step;
            due[man] = minute + house.stepMinutes[task * MOST_STEPS + step];
        }

        private void lieDown(int man, int minute) {
            state.downAt[man] = minute;
            due[man] = FAR;
        }

        private int chosenStep(int man, int task, int minute) {
            facts[Laws.LAST] = last[man];
            facts[Laws.DONE] = state.done[task * MOST_STEPS + last[man]];
            facts[Laws.STEPS] = house.stepCount[task];
            facts[Laws.MINUTE] = minute;
            facts[Laws.STUFF] = state.stuff[task];
            facts[Laws.TIMES] = times[man];
            int chosen = house.laws.tellsTo(man, facts);
            return Math.max(0, Math.min(house.stepCount[task] - 1, chosen));
        }

        private void wakeUp() {
            for (int man = 0; man < house.men; man++) {
                int left = state.left[man];
                state.lastStrokes[man] = times[man];
                state.allStrokes[man] += times[man];
                if (left >= 0) {
                    int task = left / MOST_STEPS;
                    state.left[man] = sawEnd[man] == 1 ? NONE : task * MOST_STEPS + last[man];
                }
            }
        }
    }

    /** What would be if this evening one thing or the other were otherwise. */
    private static final class Evening {
        private static final int FOR_ONE = 0;
        private static final int FOR_TWO = 1;
        private static final int HIDING = 2;
        private static final int BARS = 3;
        private static final int FITS = 4;
        private static final int NO_ARRIVAL = 511;
        private static final int NO_GAIN = -2000000000;

        private final Sleep sleep;
        private final State now;
        private final State trial = new State();
        private final Told told;
        private House house;
        private int worthNow;
        // Several calls ask the parts of one answer; the latest answer is kept till something changes.
        private int question = NONE;
        private int questionOne;
        private int questionTwo;
        private long[] seen = new long[0];
        int mostGain;
        int idleGain;
        int first;
        int second;
        final int[] fit = new int[ALL_STEPS + 1];
        int fitCount;

        Evening(House firstHouse, State state, Told found) {
            house = firstHouse;
            now = state;
            told = found;
            sleep = new Sleep(firstHouse, trial);
        }

        void enter(House newHouse) {
            house = newHouse;
            sleep.ways.drop();
            setStale();
        }

        void setStale() {
            question = NONE;
        }

        int minutesBetween(int room, int other) {
            return sleep.ways.between(house, now.shut, room, other);
        }

        void goBy() {
            sleep.goTill(house.minutes, house, now);
            now.nights++;
            setStale();
        }

        int gainAsItIs() {
            worthNow = house.worthOfAll(now);
            trial.copy(now);
            return gainOfTrial();
        }

        int strokesTill(int man, int minute) {
            trial.copy(now);
            sleep.goTill(minute, house, trial);
            return trial.lastStrokes[man];
        }

        private int gainOfTrial() {
            sleep.goTill(house.minutes, house, trial);
            return house.worthOfAll(trial) - worthNow;
        }

        private boolean isAnswered(int asked, int one, int two) {
            if (question == asked && questionOne == one && questionTwo == two) {
                return true;
            }
            question = asked;
            questionOne = one;
            questionTwo = two;
            worthNow = house.worthOfAll(now);
            mostGain = NO_GAIN;
            return false;
        }

        // Only more counts: of alike ones that which is offered first stays.
        private void offer(int gained, int one, int two) {
            if (gained > mostGain) {
                mostGain = gained;
                first = one;
                second = two;
            }
        }

        void seekForOne(int man) {
            if (isAnswered(FOR_ONE, man, NONE)) {
                return;
            }
            for (int left = NONE; left < ALL_STEPS; left++) {
                if (house.mayBeLeft(left)) {
                    trial.copy(now);
                    trial.left[man] = left;
                    offer(gainOfTrial(), left, NONE);
                    if (left < 0) {
                        idleGain = mostGain;
                    }
                }
            }
        }

        void seekForTwo(int man, int other) {
            if (isAnswered(FOR_TWO, man, other)) {
                return;
            }
            for (int left = NONE; left < ALL_STEPS; left++) {
                for (int right = NONE; right < ALL_STEPS && house.mayBeLeft(left); right++) {
                    if (house.mayBeLeft(right)) {
                        trial.copy(now);
                        trial.left[man] = left;
                        trial.left[other] = right;
                        offer(gainOfTrial(), left, right);
                    }
                }
            }
        }

        void seekHidingPlace(int tool) {
            if (isAnswered(HIDING, tool, NONE)) {
                return;
            }
            for (int i = 0; i < house.rooms + house.men; i++) {
                int spot = i < house.rooms ? i : HAD + i - house.rooms;
                trial.copy(now);
                trial.toolAt[tool] = spot;
                offer(gainOfTrial(), spot, NONE);
            }
        }

        void seekBars() {
            if (isAnswered(BARS, NONE, NONE)) {
                return;
            }
            int sets = 1 << house.doors;
            clearSeen(2 * sets);
            for (int size = 0; size <= house.doors; size++) {
                for (int set = 0; set < sets; set++) {
                    if (Integer.bitCount(set) == size && isNew(arrivals(set))) {
                        trial.copy(now);
                        trial.shut = set;
                        offer(gainOfTrial(), set, NONE);
                    }
                }
            }
        }

        // Doors change a night's gain only by when each man arrives, so sets that
        // agree in that are tried once: twelve doors have 4096 sets, few of them different.
        private long arrivals(int set) {
            long all = 0;
            for (int man = 0; man < house.men; man++) {
                int left = now.left[man];
                int minute = FAR;
                if (left >= 0) {
                    int room = house.taskRoom[left / MOST_STEPS];
                    minute = sleep.ways.between(house, set, house.home[man], room);
                }
                all = all << 9 | (minute >= house.minutes ? NO_ARRIVAL : minute & NO_ARRIVAL);
            }
            return all;
        }

        private void clearSeen(int length) {
            if (seen.length < length) {
                seen = new long[length];
            }
            Arrays.fill(seen, 0L);
        }

        private boolean isNew(long key) {
            long mixed = (key + 1) * 0x9E3779B97F4A7C15L;
            int mask = seen.length - 1;
            int spot = (int) (mixed >>> 40) & mask;
            for (int i = 0; i < seen.length; i++) {
                if (seen[spot] == key + 1) {
                    return false;
                }
                if (seen[spot] == 0) {
                    seen[spot] = key + 1;
                    return true;
                }
                spot = spot + 1 & mask;
            }
            return true;
        }

        void seekFits(int man, int k) {
            if (isAnswered(FITS, man, k)) {
                return;
            }
            fitCount = 0;
            for (int left = NONE; left < ALL_STEPS; left++) {
                if (house.mayBeLeft(left)) {
                    trial.copy(now);
                    trial.left[man] = left;
                    sleep.goTill(house.minutes, house, trial);
                    if (told.isSoIn(trial, k)) {
                        fit[fitCount] = left;
                        fitCount++;
                    }
                }
            }
        }

        int suspectBits(int k) {
            int bits = 0;
            for (int man = 0; man < house.men; man++) {
                if (isSuspect(man, k)) {
                    bits |= 1 << man;
                }
            }
            return bits;
        }

        private boolean isSuspect(int man, int k) {
            for (int left = NONE; left < ALL_STEPS; left++) {
                if (house.mayBeLeft(left) && left != now.left[man]) {
                    trial.copy(now);
                    trial.left[man] = left;
                    sleep.goTill(house.minutes, house, trial);
                    if (told.isSoIn(trial, k)) {
                        return true;
                    }
                }
            }
            return false;
        }

        int fittingPairs(int man, int other, int k) {
            int pairs = 0;
            for (int left = NONE; left < ALL_STEPS; left++) {
                for (int right = NONE; right < ALL_STEPS && house.mayBeLeft(left); right++) {
                    if (house.mayBeLeft(right)) {
                        trial.copy(now);
                        trial.left[man] = left;
                        trial.left[other] = right;
                        sleep.goTill(house.minutes, house, trial);
                        pairs += told.isSoIn(trial, k) ? 1 : 0;
                    }
                }
            }
            return pairs;
        }
    }

    /** The tokens of a tape, with one too many at most. A sign's kind is its byte. */
    private static final class Scanner {
        static final int ROOM = 0;
        static final int DOOR = 1;
        static final int TOOL = 2;
        static final int TASK = 3;
        static final int STEP = 4;
        static final int MAN = 5;
        static final int LAW = 6;
        static final int NIGHT = 7;
        static final int SHUT = 8;
        static final int WITH = 9;
        static final int UNDOES = 10;
        static final int LEFT = 11;
        static final int IF = 12;
        static final int THEN = 13;
        static final int ELSE = 14;
        static final int LAST = 15;
        static final int TIMES = 20;
        static final int WORDS = 21;
        static final int NAME = 100;
        static final int INT = 101;
        static final int END = 102;
        static final int NO_TOKEN = 103;
        static final int MOST_TOKENS = 400;

        // The words in the order of their numbers, a blank behind each.
        private static final String LIST =
            "room door tool task step man law night shut with undoes left if then else last done steps minute stuff times ";
        private static final String SIGNS = ";=+-*/<()";
        private static final int MOST_LETTERS = 8;
        private static final int MOST_DIGITS = 4;

        final int[] kind = new int[MOST_TOKENS + 1];
        final int[] from = new int[MOST_TOKENS + 1];
        final int[] number = new int[MOST_TOKENS + 1];
        // The letters of a name, a byte each: eight of them fill a long.
        final long[] name = new long[MOST_TOKENS + 1];
        private final long[] words = new long[WORDS];
        private int at;

        Scanner() {
            int word = 0;
            for (int i = 0; i < LIST.length() && word < WORDS; i++) {
                if (LIST.charAt(i) == ' ') {
                    word++;
                } else {
                    words[word] = words[word] << 8 | LIST.charAt(i);
                }
            }
        }

        // No text is read past its end or past what is no token, so none is kept behind them.
        void scanAll(Tape tape) {
            at = 0;
            boolean more = true;
            for (int token = 0; token <= MOST_TOKENS && more; token++) {
                scanNext(token, tape);
                more = kind[token] != END && kind[token] != NO_TOKEN;
            }
        }

        private void scanNext(int token, Tape tape) {
            while (at < tape.size && isBlank(tape.bytes[at])) {
                at++;
            }
            from[token] = at;
            if (at >= tape.size) {
                kind[token] = END;
                return;
            }
            int sign = tape.bytes[at];
            if (isLetter(sign)) {
                scanLetters(token, tape);
            } else if (isDigit(sign)) {
                scanDigits(token, tape);
            } else {
                kind[token] = sign > 0 && SIGNS.indexOf((char) sign) >= 0 ? sign : NO_TOKEN;
                at++;
            }
        }

        private void scanLetters(int token, Tape tape) {
            long letters = 0;
            while (at < tape.size && isLetter(tape.bytes[at])) {
                letters = letters << 8 | tape.bytes[at];
                at++;
            }
            int found = at - from[token] > MOST_LETTERS ? NO_TOKEN : NAME;
            for (int word = 0; word < WORDS && found == NAME; word++) {
                if (words[word] == letters) {
                    found = word;
                }
            }
            name[token] = letters;
            kind[token] = found;
        }

        private void scanDigits(int token, Tape tape) {
            int sum = 0;
            while (at < tape.size && isDigit(tape.bytes[at])) {
                sum = sum * 10 + tape.bytes[at] - '0';
                at++;
            }
            number[token] = sum;
            kind[token] = at - from[token] > MOST_DIGITS ? NO_TOKEN : INT;
        }

        private static boolean isBlank(int sign) {
            return sign == 9 || sign == 10 || sign == 13 || sign == 32;
        }

        private static boolean isLetter(int sign) {
            return sign >= 'a' && sign <= 'z';
        }

        private static boolean isDigit(int sign) {
            return sign >= '0' && sign <= '9';
        }
    }

    /** Reads a text into a house and its first evening, or finds the fault of the text. */
    private static final class Reader {
        private static final int SYNTAX = 1;
        private static final int NO_SPACE = 2;
        private static final int TWICE = 3;
        private static final int NO_NAME = 4;
        private static final int WRONG = 5;
        private static final int MOST_LAWS = 8;
        private static final int MOST_IFS = 4;
        private static final int MOST_DEPTH = 6;
        private static final int MOST_INT = 9999;

        private final Scanner scan = new Scanner();
        private final long[] roomNames = new long[MOST_ROOMS];
        private final long[] toolNames = new long[MOST_TOOLS];
        private final long[] taskNames = new long[MOST_TASKS];
        private final long[] manNames = new long[MOST_MEN];
        private House house;
        private State state;
        private int token;
        private int taken;
        private int lawCount;
        private int fault;
        private int faultAt;
        // A fault of names and numbers counts only if the whole text has none of form and space.
        private int lateFault;
        private int lateFaultAt;

        Reader(House firstHouse, State firstState) {
            house = firstHouse;
            state = firstState;
        }

        int readText(Tape tape, House intoHouse, State intoState) {
            open(tape, intoHouse, intoState);
            for (int i = 0; i <= Scanner.MOST_TOKENS && fault == 0 && !isNext(Scanner.END); i++) {
                switch (scan.kind[token]) {
                    case Scanner.ROOM:
                        readRoom();
                        break;
                    case Scanner.DOOR:
                        readDoor();
                        break;
                    case Scanner.TOOL:
                        readTool();
                        break;
                    case Scanner.TASK:
                        readTask();
                        break;
                    case Scanner.STEP:
                        readStep();
                        break;
                    case Scanner.MAN:
                        readMan();
                        break;
                    case Scanner.LAW:
                        readLaw();
                        break;
                    case Scanner.NIGHT:
                        readNight();
                        break;
                    default:
                        fail(SYNTAX, scan.from[token]);
                        break;
                }
            }
            if (fault == 0) {
                fault = lateFault;
                faultAt = lateFaultAt;
            }
            return fault;
        }

        int placeOfFault() {
            return fault == 0 ? NONE : faultAt;
        }

        private void open(Tape tape, House intoHouse, State intoState) {
            house = intoHouse;
            state = intoState;
            house.clear();
            state.clear();
            token = 0;
            taken = 0;
            lawCount = 0;
            fault = 0;
            lateFault = 0;
            scan.scanAll(tape);
        }

        private void fail(int number, int at) {
            if (fault == 0 || at < faultAt) {
                fault = number;
                faultAt = at;
            }
        }

        // Names and numbers are looked at in the order of their places, so the first one stays.
        private void failLate(int number) {
            if (lateFault == 0) {
                lateFault = number;
                lateFaultAt = scan.from[taken];
            }
        }

        private boolean isNext(int kind) {
            return fault == 0 && scan.kind[token] == kind;
        }

        private boolean take(int kind) {
            if (fault != 0) {
                return false;
            }
            if (scan.kind[token] != kind) {
                fail(SYNTAX, scan.from[token]);
                return false;
            }
            if (token >= Scanner.MOST_TOKENS) {
                fail(NO_SPACE, scan.from[token]);
                return false;
            }
            taken = token;
            token++;
            return true;
        }

        private void takeFirst(int word, int there, int most) {
            if (there >= most) {
                fail(NO_SPACE, scan.from[token]);
            }
            take(word);
        }

        private void takeNewName(long[] names, int there) {
            if (!take(Scanner.NAME) || there >= names.length) {
                return;
            }
            long name = scan.name[taken];
            if (find(name, roomNames, house.rooms) >= 0 || find(name, toolNames, house.tools) >= 0
                || find(name, taskNames, house.tasks) >= 0 || find(name, manNames, house.men) >= 0) {
                failLate(TWICE);
            }
            names[there] = name;
        }

        private int takeKnownName(long[] names, int there) {
            if (!take(Scanner.NAME)) {
                return NONE;
            }
            int found = find(scan.name[taken], names, there);
            if (found < 0) {
                failLate(NO_NAME);
            }
            return found;
        }

        private static int find(long name, long[] names, int there) {
            for (int i = 0; i < there && i < names.length; i++) {
                if (names[i] == name) {
                    return i;
                }
            }
            return NONE;
        }

        private int takeNumber(int least, int most) {
            if (!take(Scanner.INT)) {
                return least;
            }
            int number = scan.number[taken];
            if (number < least || number > most) {
                failLate(WRONG);
            }
            return number;
        }

        private int takeStepNumber(int task) {
            return takeNumber(0, task < 0 ? MOST_INT : house.stepCount[task] - 1);
        }

        private void readRoom() {
            takeFirst(Scanner.ROOM, house.rooms, MOST_ROOMS);
            takeNewName(roomNames, house.rooms);
            if (take(';')) {
                house.rooms++;
            }
        }

        private void readDoor() {
            takeFirst(Scanner.DOOR, house.doors, MOST_DOORS);
            int from = takeKnownName(roomNames, house.rooms);
            int to = takeKnownName(roomNames, house.rooms);
            if (from >= 0 && from == to) {
                failLate(WRONG);
            }
            int minutes = takeNumber(1, 60);
            boolean shut = isNext(Scanner.SHUT) && take(Scanner.SHUT);
            if (take(';')) {
                int door = house.doors;
                house.doorFrom[door] = from;
                house.doorTo[door] = to;
                house.doorMinutes[door] = minutes;
                state.shut |= shut ? 1 << door : 0;
                house.doors++;
            }
        }

        private void readTool() {
            takeFirst(Scanner.TOOL, house.tools, MOST_TOOLS);
            takeNewName(toolNames, house.tools);
            int room = takeKnownName(roomNames, house.rooms);
            if (take(';')) {
                state.toolAt[house.tools] = room;
                house.tools++;
            }
        }

        private void readTask() {
            takeFirst(Scanner.TASK, house.tasks, MOST_TASKS);
            takeNewName(taskNames, house.tasks);
            int room = takeKnownName(roomNames, house.rooms);
            int stuff = takeNumber(0, 999);
            if (take(';')) {
                house.taskRoom[house.tasks] = room;
                state.stuff[house.tasks] = stuff;
                house.tasks++;
            }
        }

        private void readStep() {
            int task = takeTaskOfStep();
            int minutes = takeNumber(1, 120);
            int need = takeNumber(0, 99);
            int won = takeNumber(0, 99);
            int spoilt = takeNumber(0, 99);
            int tool = NOTHING;
            if (isNext(Scanner.WITH) && take(Scanner.WITH)) {
                tool = takeKnownName(toolNames, house.tools);
            }
            int undone = NOTHING;
            if (isNext(Scanner.UNDOES) && take(Scanner.UNDOES)) {
                undone = takeStepNumber(task);
            }
            if (take(';') && task >= 0) {
                int at = task * MOST_STEPS + house.stepCount[task];
                house.stepMinutes[at] = minutes;
                house.need[at] = need;
                house.won[at] = won;
                house.spoilt[at] = spoilt;
                house.stepTool[at] = tool;
                house.undone[at] = undone;
                house.stepCount[task]++;
            }
        }

        // The fault of a seventh step lies ahead of the name that shows it, and so also
        // ahead of that name's own fault, if it is the first token too many.
        private int takeTaskOfStep() {
            int at = scan.from[token];
            take(Scanner.STEP);
            int task = NONE;
            if (isNext(Scanner.NAME)) {
                task = find(scan.name[token], taskNames, house.tasks);
            }
            takeKnownName(taskNames, house.tasks);
            if (task >= 0 && house.stepCount[task] >= MOST_STEPS) {
                fail(NO_SPACE, at);
            }
            return task;
        }

        private void readMan() {
            takeFirst(Scanner.MAN, house.men, MOST_MEN);
            takeNewName(manNames, house.men);
            int home = takeKnownName(roomNames, house.rooms);
            int left = NONE;
            if (isNext(Scanner.LEFT) && take(Scanner.LEFT)) {
                int task = takeKnownName(taskNames, house.tasks);
                left = task * MOST_STEPS + takeStepNumber(task);
            }
            if (take(';')) {
                house.home[house.men] = home;
                state.left[house.men] = left;
                house.men++;
            }
        }

        private void readNight() {
            take(Scanner.NIGHT);
            house.minutes = takeNumber(1, 600);
            take(';');
        }

        private void readLaw() {
            takeFirst(Scanner.LAW, lawCount, MOST_LAWS);
            int man = takeKnownName(manNames, house.men);
            int start = house.laws.length;
            take('=');
            for (int ifs = 0; ifs <= MOST_IFS && isNext(Scanner.IF); ifs++) {
                if (ifs == MOST_IFS) {
                    fail(NO_SPACE, scan.from[token]);
                }
                readIf();
            }
            readSum(0);
            house.laws.add(Laws.STOP, 0);
            if (take(';')) {
                lawCount++;
                if (man >= 0) {
                    house.laws.start[man] = start;
                }
            }
        }

        private void readIf() {
            take(Scanner.IF);
            readSum(0);
            take('<');
            readSum(0);
            int jump = house.laws.add('<', 0);
            take(Scanner.THEN);
            readSum(0);
            house.laws.add(Laws.STOP, 0);
            take(Scanner.ELSE);
            house.laws.aimHere(jump);
        }

        // One sign of each rank at most waits for its second part, as all go from left to right.
        private void readSum(int depth) {
            int sumSign = 0;
            int partSign = 0;
            boolean more = true;
            for (int i = 0; i <= Scanner.MOST_TOKENS && more; i++) {
                readUnit(depth);
                addSign(partSign);
                partSign = takeEither('*', '/');
                if (partSign == 0) {
                    addSign(sumSign);
                    sumSign = takeEither('+', '-');
                    more = sumSign != 0;
                }
            }
        }

        private void addSign(int sign) {
            if (sign != 0) {
                house.laws.add(sign, 0);
            }
        }

        private int takeEither(int sign, int other) {
            if (isNext(sign) && take(sign)) {
                return sign;
            }
            return isNext(other) && take(other) ? other : 0;
        }

        private void readUnit(int depth) {
            if (isNext('(')) {
                if (depth >= MOST_DEPTH) {
                    fail(NO_SPACE, scan.from[token]);
                    return;
                }
                take('(');
                readSum(depth + 1);
                take(')');
                return;
            }
            for (int word = Scanner.LAST; word <= Scanner.TIMES; word++) {
                if (isNext(word) && take(word)) {
                    house.laws.add(Laws.FACT, word - Scanner.LAST);
                    return;
                }
            }
            if (take(Scanner.INT)) {
                house.laws.add(Laws.NUMBER, scan.number[taken]);
            }
        }
    }
}
