import java.util.List;
import java.util.function.Supplier;

/** Edges of the calls that tell and change what is: promises 1, 6 to 17, 31 to 33, and what is refused. */
public final class EdgeCallsTest {
    private static final int FAR = 1000000000;
    private static final int MIN = Integer.MIN_VALUE;
    private static final int MAX = Integer.MAX_VALUE;
    private static final String SMALL = "room a;room b;door a b 10;tool saw b;task wall b 5;step wall 20 2 7 3 with saw;"
        + "step wall 30 1 5 1 undoes 0;task sky a 3;man tom a left wall 0;man ann b;night 100;";
    private static final Supplier<SleepWork> LIVED = EdgeCallsTest::lived;

    private EdgeCallsTest() { }

    public static void main(String[] args) {
        newObject();
        task();
        step();
        man();
        manBehindNights();
        tool();
        way();
        leave();
        work();
        workUndoes();
        lay();
        give();
        bar();
        night();
        undo();
        undoHands();
        undoKeeps();
        hold();
        restore();
        restoreRefused();
        count();
        refusedCallsChangeNothing();
        refusedInAFullHouse();
        lastCall();
        Check.end();
    }

    /** Two nights gone, one thing done by hand, two told, a slot held, bytes on the tape. */
    private static SleepWork lived() {
        SleepWork x = Check.house(SMALL);
        x.hold(1);
        x.night();
        x.leave(1, 0, 1);
        x.night();
        x.give(0, 1);
        x.tell(0, 0, 4);
        x.tell(0, 1, 0);
        x.feed('r' << 24, 0, 0, 0, 0);
        return x;
    }

    private static void newObject() {
        Check.says("`SleepWork()`: Nothing is told.");
        SleepWork x = new SleepWork();
        for (int what = 0; what <= 12; what++) {
            Check.due("count " + what, x.count(what), what == 5 ? 480 : 0);
        }
        Check.due("task", x.task(0, 0), -1);
        Check.due("step", x.step(0, 0, 0), -1);
        Check.due("man", x.man(0, 0), -1);
        Check.due("tool", x.tool(0), -1);
        Check.due("way", x.way(0, 0), -1);
        Check.due("leave", x.leave(0, -1, -1), false);
        Check.due("work", x.work(0, 0), false);
        Check.due("lay", x.lay(0, 0), false);
        Check.due("give", x.give(0, 0), false);
        Check.due("bar", x.bar(0, true), false);
        Check.due("undo", x.undo(), false);
        Check.due("restore", x.restore(0), false);
        Check.due("fits", x.fits(0, 0, -1), -1);
        Check.due("pairs", x.pairs(0, 1, 0), -1);
        Check.due("bestOfTwo", x.bestOfTwo(0, 1, 0), -1);
        Check.due("gain", x.gain(), 0);
        Check.due("hold", x.hold(0), true);
        Check.due("restore", x.restore(0), true);
        Check.due("night", x.night(), 0);
        Check.due("nights", x.count(6), 1);
    }

    private static void task() {
        Check.says("Of a TASK: what 0 its ROOM, 1 how many STEPS, 2 STUFF, 3 WORTH, 4: 1 if ENDED, else 0. NONE for others (WORTH may be -1).");
        SleepWork x = Check.house(SMALL);
        int[][] due = {{1, 2, 5, 0, 0}, {0, 0, 3, 0, 1}};
        for (int what = 0; what < 5; what++) {
            Check.due("the first, " + what, x.task(0, what), due[0][what]);
            Check.due("the last, " + what, x.task(1, what), due[1][what]);
            for (int task : new int[] {-1, 2, 6, FAR, MIN, MAX}) {
                Check.due("no task " + task, x.task(task, what), -1);
            }
        }
        for (int what : new int[] {-1, 5, FAR, MIN, MAX}) {
            Check.due("what " + what, x.task(0, what), -1);
            Check.due("what " + what, x.task(1, what), -1);
        }
        x = Check.house("room a;task t a 9;step t 1 0 0 1;");
        x.work(0, 0);
        Check.due("worth may be -1", x.task(0, 3), -1);
    }

    private static void step() {
        Check.says("Of a STEP of a TASK: what 0 how often it is done, 1 MINUTES, 2 NEED, 3 GAIN, 4 SPOIL, 5 its TOOL (-2: none), "
            + "6 the STEP it undoes (-2: none). NONE for others.");
        SleepWork x = Check.house(SMALL);
        int[][] due = {{0, 20, 2, 7, 3, 0, -2}, {0, 30, 1, 5, 1, -2, 0}};
        for (int what = 0; what < 7; what++) {
            Check.due("the first, " + what, x.step(0, 0, what), due[0][what]);
            Check.due("the last, " + what, x.step(0, 1, what), due[1][what]);
            for (int odd : new int[] {-1, 2, 6, FAR, MIN, MAX}) {
                Check.due("no step " + odd, x.step(0, odd, what), -1);
                Check.due("no task " + odd, x.step(odd, 0, what), -1);
            }
            Check.due("a task without steps", x.step(1, 0, what), -1);
        }
        for (int what : new int[] {-1, 7, FAR, MIN, MAX}) {
            Check.due("what " + what, x.step(0, 0, what), -1);
        }
        StringBuilder text = new StringBuilder("room a;" + Check.many("tool # a;", 6) + "task t a 9;step t 1 1 1 1 with h;");
        for (int step = 1; step < 6; step++) {
            text.append("step t 1 1 1 1 with c undoes ").append(step - 1).append(";");
        }
        x = Check.house(text.toString());
        Check.due("the last tool", x.step(0, 0, 5), 5);
        Check.due("the first tool", x.step(0, 5, 5), 0);
        Check.due("the last but one step", x.step(0, 5, 6), 4);
    }

    private static void man() {
        Check.says("Of a MAN: what 0 HOME, 1 the TASK he LEFT (-2: none), 2 its STEP (-2: none)");
        SleepWork x = Check.house(SMALL);
        int[][] due = {{0, 0, 0, 0, 0, -2}, {1, -2, -2, 0, 0, -2}};
        for (int what = 0; what < 6; what++) {
            Check.due("the first, " + what, x.man(0, what), due[0][what]);
            Check.due("the last, " + what, x.man(1, what), due[1][what]);
            for (int man : new int[] {-1, 2, 6, FAR, MIN, MAX}) {
                Check.due("no man " + man, x.man(man, what), -1);
            }
        }
        for (int what : new int[] {-1, 6, FAR, MIN, MAX}) {
            Check.due("what " + what, x.man(0, what), -1);
        }
    }

    private static void manBehindNights() {
        Check.says("3 how many STEPS he did in the last NIGHT, 4 in all, 5 the minute at which he lay down in the last NIGHT "
            + "(-2: he did not, or did not get up). NONE for others.");
        SleepWork x = Check.house("room a;task t a 5;step t 1 9 1 0;man m a left t 0;night 2;");
        // Five of stuff: 2, 2, 1 and down at 1, none and down at 0; then he leaves nothing.
        int[] steps = {2, 2, 1, 0, 0};
        int[] inAll = {2, 4, 5, 5, 5};
        int[] down = {-2, -2, 1, 0, -2};
        for (int i = 0; i < 5; i++) {
            x.leave(0, i == 4 ? -1 : 0, i == 4 ? -1 : 0);
            Check.due("leaving changes no night behind", x.man(0, 5), i == 0 ? -2 : down[i - 1]);
            x.night();
            Check.due("steps in the last night", x.man(0, 3), steps[i]);
            Check.due("in all", x.man(0, 4), inAll[i]);
            Check.due("lay down", x.man(0, 5), down[i]);
        }
        x.undo();
        Check.due("undone", x.man(0, 5), 0);
    }

    private static void tool() {
        Check.says("Where a TOOL is: its ROOM; 100 + the MAN who has it; NONE: no such one.");
        SleepWork x = Check.house(Check.many("room #;", 8) + "tool o c;tool p j;" + Check.many("man m# c;", 6));
        Check.due("the first room", x.tool(0), 0);
        Check.due("the last room", x.tool(1), 7);
        x.give(0, 0);
        x.give(1, 5);
        Check.due("the first man", x.tool(0), 100);
        Check.due("the last man", x.tool(1), 105);
        for (int tool : new int[] {-1, 2, 6, FAR, MIN, MAX}) {
            Check.due("no tool " + tool, x.tool(tool), -1);
        }
    }

    private static void way() {
        Check.says("The fewest MINUTES from one ROOM to another one by open DOORS; -2: there is no way; NONE: no such ones.");
        SleepWork x = Check.house("room a;room b;room c;door a b 60;door b a 59 shut;");
        Check.due("there", x.way(0, 1), 60);
        Check.due("and back", x.way(1, 0), 60);
        Check.due("to itself", x.way(0, 0), 0);
        Check.due("the last to itself", x.way(2, 2), 0);
        Check.due("no way", x.way(0, 2), -2);
        Check.due("no way", x.way(2, 1), -2);
        x.bar(1, false);
        Check.due("the quicker one", x.way(0, 1), 59);
        x.bar(1, true);
        x.bar(0, true);
        Check.due("no way", x.way(0, 1), -2);
        Check.due("to itself", x.way(0, 0), 0);
        for (int room : new int[] {-1, 3, 8, FAR, MIN, MAX}) {
            Check.due("no room " + room, x.way(room, 0), -1);
            Check.due("no room " + room, x.way(0, room), -1);
            Check.due("no room " + room, x.way(room, room), -1);
        }
    }

    private static void leave() {
        Check.says("He LEAVES a STEP of a TASK (NONE, NONE: nothing): true; false: no such ones.");
        SleepWork x = Check.house(SMALL);
        Check.due("the last step", x.leave(1, 0, 1), true);
        Check.due("task", x.man(1, 1), 0);
        Check.due("step", x.man(1, 2), 1);
        Check.due("the other keeps his", x.man(0, 2), 0);
        Check.due("nothing", x.leave(1, -1, -1), true);
        Check.due("task", x.man(1, 1), -2);
        Check.due("step", x.man(1, 2), -2);
        Check.due("nothing again", x.leave(1, -1, -1), true);
        int[][] odd = {{0, 0, 2}, {0, 1, 0}, {0, 2, 0}, {0, 0, -1}, {0, -1, 0}, {0, -2, -2}, {0, -1, -2}, {0, -2, -1}, {2, 0, 0}, {-1, 0, 0},
            {2, -1, -1}, {-1, -1, -1}, {0, FAR, 0}, {0, 0, FAR}, {0, MIN, MIN}, {0, MAX, MAX}, {MIN, 0, 0}, {MAX, 0, 0}, {0, -1, 6}, {0, 1, -6}};
        for (int[] o : odd) {
            Check.refused("leave " + o[0] + " " + o[1] + " " + o[2], LIVED, y -> y.leave(o[0], o[1], o[2]) ? 1 : 0, 0);
        }
    }

    private static void work() {
        Check.says("true; false: no such one, no STUFF.");
        SleepWork x = Check.house("room a;task t a 2;step t 1 1 5 3;task u a 0;step u 1 1 1 1;");
        Check.due("two of stuff", x.work(0, 0), true);
        Check.due("one of stuff", x.work(0, 0), true);
        Check.due("stuff", x.task(0, 2), 0);
        Check.due("done", x.step(0, 0, 0), 2);
        Check.due("no stuff", x.work(0, 0), false);
        Check.due("done", x.step(0, 0, 0), 2);
        Check.due("stuff", x.task(0, 2), 0);
        Check.due("none from the beginning", x.work(1, 0), false);
        Check.due("worth", x.count(8), 5 - 3);
        int[][] odd = {{0, 2}, {0, -1}, {1, 0}, {2, 0}, {-1, 0}, {-1, -1}, {MIN, 0}, {MAX, 0}, {0, MIN}, {0, MAX}, {1, -6}};
        for (int[] o : odd) {
            Check.refused("work " + o[0] + " " + o[1], LIVED, y -> y.work(o[0], o[1]) ? 1 : 0, 0);
        }
        x = Check.house("room a;task t a 9;step t 1 1 5 3;");
        x.work(0, 0);
        Check.due("an ended task can be worked at by day", x.work(0, 0), true);
        Check.due("done", x.step(0, 0, 0), 2);
    }

    private static void workUndoes() {
        Check.says("A STEP is done by day, by whoever (one more; what it undoes one less, if done; STUFF one less)");
        SleepWork x = Check.house("room a;room b;tool o b;task t a 9;step t 1 1 5 3;step t 1 9 0 0 with o undoes 0;man m a;");
        Check.due("none done to undo", x.work(0, 1), true);
        Check.due("none", x.step(0, 0, 0), 0);
        x.work(0, 0);
        x.work(0, 0);
        Check.due("two", x.step(0, 0, 0), 2);
        x.work(0, 1);
        Check.due("one", x.step(0, 0, 0), 1);
        x.work(0, 1);
        Check.due("none", x.step(0, 0, 0), 0);
        x.work(0, 1);
        Check.due("not below", x.step(0, 0, 0), 0);
        Check.due("the tool does not matter", x.step(0, 1, 0), 4);
        Check.due("stuff", x.task(0, 2), 3);
        Check.due("nobody's step", x.man(0, 3) + x.man(0, 4), 0);
    }

    private static void lay() {
        Check.says("A TOOL lies in a ROOM: true; false: no such ones.");
        SleepWork x = Check.house(Check.many("room #;", 8) + "tool o c;tool p c;man m c;");
        Check.due("the last room", x.lay(1, 7), true);
        Check.due("there", x.tool(1), 7);
        Check.due("the other", x.tool(0), 0);
        Check.due("the first room", x.lay(1, 0), true);
        Check.due("there", x.tool(1), 0);
        x.give(0, 0);
        Check.due("out of his hand", x.lay(0, 3), true);
        Check.due("there", x.tool(0), 3);
        int[][] odd = {{0, 2}, {0, -1}, {1, 0}, {-1, 0}, {0, 100}, {0, 101}, {MIN, 0}, {MAX, 0}, {0, MIN}, {0, MAX}, {6, 0}, {0, 8}};
        for (int[] o : odd) {
            Check.refused("lay " + o[0] + " " + o[1], LIVED, y -> y.lay(o[0], o[1]) ? 1 : 0, 0);
        }
    }

    private static void give() {
        Check.says("A MAN has a TOOL: true; false: no such ones.");
        SleepWork x = Check.house("room a;tool o a;tool p a;" + Check.many("man # a;", 6));
        Check.due("the last man", x.give(1, 5), true);
        Check.due("his", x.tool(1), 105);
        Check.due("the other", x.tool(0), 0);
        Check.due("two tools", x.give(0, 5), true);
        Check.due("his", x.tool(0), 105);
        Check.due("to another", x.give(0, 0), true);
        Check.due("his", x.tool(0), 100);
        int[][] odd = {{0, 2}, {0, -1}, {1, 0}, {-1, 0}, {0, 100}, {MIN, 0}, {MAX, 0}, {0, MIN}, {0, MAX}, {6, 0}, {0, 6}};
        for (int[] o : odd) {
            Check.refused("give " + o[0] + " " + o[1], LIVED, y -> y.give(o[0], o[1]) ? 1 : 0, 0);
        }
    }

    private static void bar() {
        Check.says("A DOOR is shut, or open: true; false: no such one.");
        SleepWork x = Check.house("room a;room b;" + Check.many("door a b 9;", 12));
        for (int door = 0; door < 12; door++) {
            Check.due("shut", x.bar(door, true), true);
            Check.due("shut ones", x.count(7), door + 1);
            Check.due("shut again", x.bar(door, true), true);
            Check.due("shut ones", x.count(7), door + 1);
            Check.due("way", x.way(0, 1), door < 11 ? 9 : -2);
        }
        Check.due("open", x.bar(11, false), true);
        Check.due("open again", x.bar(11, false), true);
        Check.due("shut ones", x.count(7), 11);
        Check.due("way", x.way(0, 1), 9);
        for (int door : new int[] {-1, 1, 12, 31, 32, 33, 64, FAR, MIN, MAX}) {
            Check.refused("bar " + door, LIVED, y -> y.bar(door, true) ? 1 : 0, 0);
            Check.refused("open " + door, LIVED, y -> y.bar(door, false) ? 1 : 0, 0);
        }
    }

    private static void night() {
        Check.says("A NIGHT goes by: its GAIN.");
        SleepWork x = Check.house(SMALL);
        int due = x.gain();
        Check.due("as told the evening ahead", x.night(), due);
        Check.due("nights", x.count(6), 1);
        Check.due("worth", x.count(8), due);
        Check.due("without men", Check.house("room a;task t a 1;step t 1 1 1 1;").night(), 0);
    }

    private static void undo() {
        Check.says("The last NIGHT is undone, with all that was done by hand since: true; false: there is none (the last 20 can be).");
        for (int nights : new int[] {0, 1, 19, 20, 21, 45}) {
            SleepWork x = Check.house("room a;task t a 99;step t 1 99 1 0;man m a left t 0;night 1;");
            for (int i = 0; i < nights; i++) {
                x.night();
            }
            int most = Math.min(20, nights);
            Check.due("can be undone of " + nights, x.count(10), most);
            for (int i = 1; i <= most; i++) {
                Check.due("undo", x.undo(), true);
                Check.due("nights", x.count(6), nights - i);
                Check.due("done", x.step(0, 0, 0), nights - i);
                Check.due("can be undone", x.count(10), most - i);
            }
            Check.due("there is none", x.undo(), false);
            Check.due("nights", x.count(6), nights - most);
            Check.due("done", x.step(0, 0, 0), nights - most);
            x.night();
            Check.due("one more", x.count(10), 1);
            Check.due("undo", x.undo(), true);
            Check.due("done", x.step(0, 0, 0), nights - most);
            Check.due("there is none", x.undo(), false);
        }
        Check.refused("undo of none", () -> Check.house(SMALL), y -> y.undo() ? 1 : 0, 0);
    }

    private static void undoHands() {
        Check.says("The last NIGHT is undone, with all that was done by hand since");
        SleepWork x = Check.house(SMALL);
        x.work(0, 1);
        x.leave(1, 0, 1);
        x.bar(0, true);
        x.give(0, 1);
        List<Integer> evening = Check.portrait(x);
        x.night();
        x.work(0, 0);
        x.leave(1, -1, -1);
        x.leave(0, 0, 1);
        x.bar(0, false);
        x.lay(0, 0);
        Check.due("undo", x.undo(), true);
        Check.due("what was done by hand ahead of the night stands: " + evening, evening.equals(Check.portrait(x)), true);
    }

    /** What is told, what slots hold and the tape are neither nights nor work by hand. */
    private static void undoKeeps() {
        Check.says("The last NIGHT is undone, with all that was done by hand since");
        SleepWork x = Check.house(SMALL);
        x.night();
        x.tell(0, 0, 4);
        x.hold(1);
        x.feed(0, 0, 0, 0, 0);
        Check.due("undo", x.undo(), true);
        Check.due("what is told stays", x.count(11), 1);
        Check.due("what is told is so", x.fits(0, 1, 0), 0);
        Check.due("the tape stays", x.count(9), 20);
        Check.due("a slot is held", x.count(12), 1);
        Check.due("nights", x.count(6), 0);
        Check.due("what it holds stays", x.restore(1), true);
        Check.due("nights", x.count(6), 1);
        Check.due("the tape stays", x.count(9), 20);
        Check.due("what is told stays", x.count(11), 1);
    }

    private static void hold() {
        Check.says("All but what is TOLD is held in a SLOT (0 .. 2): true; false: no such one.");
        SleepWork x = Check.house(SMALL);
        for (int slot = 0; slot <= 2; slot++) {
            Check.due("hold", x.hold(slot), true);
            Check.due("slots", x.count(12), slot + 1);
            Check.due("hold over it", x.hold(slot), true);
            Check.due("slots", x.count(12), slot + 1);
        }
        for (int slot : new int[] {-1, 3, 4, 31, 32, 33, FAR, MIN, MAX}) {
            Check.refused("hold " + slot, LIVED, y -> y.hold(slot) ? 1 : 0, 0);
        }
        // The latest that was held counts.
        x.work(0, 0);
        x.hold(1);
        x.work(0, 0);
        x.restore(1);
        Check.due("the latest of slot 1", x.step(0, 0, 0), 1);
        x.restore(2);
        Check.due("that of slot 2", x.step(0, 0, 0), 0);
    }

    private static void restore() {
        Check.says("It goes on from what a SLOT holds (that stays there; nothing can be undone then)");
        for (int slot = 0; slot <= 2; slot++) {
            SleepWork x = Check.house(SMALL);
            x.night();
            x.leave(1, 0, 1);
            x.give(0, 1);
            x.bar(0, true);
            x.hold(slot);
            List<Integer> held = Check.portrait(x);
            x.undo();
            x.night();
            x.night();
            x.tell(0, 0, 7);
            Check.due("restore", x.restore(slot), true);
            Check.due("nothing can be undone", x.count(10), 0);
            Check.due("nothing can be undone", x.undo(), false);
            Check.due("what is told stays", x.forget(), 1);
            List<Integer> now = Check.portrait(x);
            held.set(11, 0);
            Check.due("as it was held: " + held + " is " + now, held.equals(now), true);
            x.work(0, 0);
            x.night();
            Check.due("one can be undone", x.count(10), 1);
            Check.due("it stays there", x.restore(slot), true);
            now = Check.portrait(x);
            Check.due("as it was held: " + held + " is " + now, held.equals(now), true);
        }
    }

    private static void restoreRefused() {
        Check.says("true; false, and nothing happens: no such one, nothing is held.");
        for (int slot : new int[] {-1, 0, 2, 3, 31, 32, 33, 34, FAR, MIN, MAX}) {
            Check.refused("restore " + slot, LIVED, y -> y.restore(slot) ? 1 : 0, 0);
        }
        SleepWork x = lived();
        Check.due("the one that is held", x.restore(1), true);
        Check.due("nights", x.count(6), 0);
        x = lived();
        x.restore(0);
        Check.due("nights can still be undone", x.undo() && x.undo(), true);
        Check.due("as told", x.task(0, 2), 5);
    }

    private static void count() {
        Check.says("0 ROOMS, 1 DOORS, 2 TOOLS, 3 TASKS, 4 MEN, 5 minutes of a NIGHT, 6 NIGHTS gone, 7 DOORS that are shut, 8 WORTH of all TASKS, "
            + "9 bytes on the tape, 10 NIGHTS that can be undone, 11 TOLD ones, 12 SLOTS that hold something. NONE for others.");
        SleepWork x = lived();
        x.bar(0, true);
        int[] due = {2, 1, 1, 2, 2, 100, 2, 1, 8, 20, 2, 2, 1};
        for (int what = 0; what < due.length; what++) {
            Check.due("count " + what, x.count(what), due[what]);
        }
        for (int what : new int[] {-1, 13, FAR, MIN, MAX}) {
            Check.due("what " + what, x.count(what), -1);
        }
        StringBuilder text = new StringBuilder(Check.many("room #;", 8) + Check.many("door c d 9 shut;", 12) + Check.many("tool o# c;", 6)
            + Check.many("task t# c 9;", 6) + Check.many("man m# c;", 6) + "night 600;");
        x = Check.house(text.toString());
        int[] most = {8, 12, 6, 6, 6, 600, 0, 12, 0, 0, 0, 0, 0};
        for (int what = 0; what < most.length; what++) {
            Check.due("most " + what, x.count(what), most[what]);
        }
    }

    private static void refusedCallsChangeNothing() {
        Check.says("NONE, and nothing happens: 30 are there, no such ones.");
        Check.refused("tell no times", LIVED, y -> y.tell(0, 0, 1000), -1);
        Check.refused("tell no times", LIVED, y -> y.tell(0, 0, -1), -1);
        Check.refused("tell no step", LIVED, y -> y.tell(0, 2, 0), -1);
        Check.refused("tell no task", LIVED, y -> y.tell(2, 0, 0), -1);
        Check.refused("tell of a task without steps", LIVED, y -> y.tell(1, 0, 0), -1);
        Check.says("NONE, and nothing comes, if it would have more than 2,000.");
        Check.refused("feed", () -> {
            SleepWork x = lived();
            for (int i = 1; i < 100; i++) {
                x.feed(0, 0, 0, 0, 0);
            }
            return x;
        }, y -> y.feed(0, 0, 0, 0, 0), -1);
        Check.says("NONE, and nothing goes, if it has not so many, or n is below 0.");
        Check.refused("back", LIVED, y -> y.back(21), -1);
        Check.refused("back", LIVED, y -> y.back(-1), -1);
        Check.refused("back of none", LIVED, y -> y.back(0), 20);
    }

    /** Where a text has as much as it may, one more is no such one either. */
    private static void refusedInAFullHouse() {
        Check.says("false: no such ones.");
        StringBuilder text = new StringBuilder(Check.many("room #;", 8) + Check.many("door c d 1;", 12) + Check.many("tool o# c;", 6)
            + Check.many("task t# c 1;", 6) + Check.many("step th 1 9 1 0;", 6) + Check.many("man m# c;", 6));
        SleepWork x = Check.house(text.toString());
        Check.due("the last of all", x.leave(5, 5, 5), true);
        Check.due("the last of all", x.work(5, 5), true);
        Check.due("the last of all", x.lay(5, 7), true);
        Check.due("the last of all", x.give(5, 5), true);
        Check.due("the last of all", x.bar(11, true), true);
        Check.due("the last of all", x.tell(5, 5, 1), 0);
        Check.due("the last of all", x.step(5, 5, 0), 1);
        Check.due("the last of all", x.way(7, 7), 0);
        Check.due("the last of all", x.where(5, 480), 0);
        Check.due("the last of all, its stuff being gone", x.fits(5, 1, -1), 7);
        for (int beyond = 6; beyond <= 8; beyond++) {
            Check.due("task", x.task(beyond, 0), -1);
            Check.due("step", x.step(5, beyond, 0), -1);
            Check.due("step of no task", x.step(beyond, 0, 0), -1);
            Check.due("man", x.man(beyond, 0), -1);
            Check.due("tool", x.tool(beyond), -1);
            Check.due("leave of nobody", x.leave(beyond, 5, 5), false);
            Check.due("leave of no task", x.leave(5, beyond, 0), false);
            Check.due("leave of no step", x.leave(5, 5, beyond), false);
            Check.due("work", x.work(beyond, 0), false);
            Check.due("work", x.work(5, beyond), false);
            Check.due("lay", x.lay(beyond, 0), false);
            Check.due("lay", x.lay(0, beyond + 2), false);
            Check.due("give", x.give(beyond, 0), false);
            Check.due("give", x.give(0, beyond), false);
            Check.due("bar", x.bar(beyond + 6, true), false);
            Check.due("tell", x.tell(beyond, 0, 0), -1);
            Check.due("tell", x.tell(5, beyond, 0), -1);
            Check.due("way", x.way(beyond + 2, 0), -1);
            Check.due("way", x.way(0, beyond + 2), -1);
            Check.due("best", x.best(beyond, 0), -1);
            Check.due("bestOfTwo", x.bestOfTwo(beyond, 0, 0), -1);
            Check.due("bestOfTwo", x.bestOfTwo(0, beyond, 0), -1);
            Check.due("hire", x.hire(beyond), -1000000);
            Check.due("hide", x.hide(beyond, 0), -1);
            Check.due("where", x.where(beyond, 0), -1);
            Check.due("strokes", x.strokes(beyond, 0), -1);
            Check.due("fits", x.fits(beyond, 0, -1), -1);
            Check.due("pairs", x.pairs(beyond, 0, 0), -1);
            Check.due("pairs", x.pairs(0, beyond, 0), -1);
        }
    }

    private static void lastCall() {
        Check.says("An object is used for at most 512 calls after it has been made");
        SleepWork x = new SleepWork();
        for (int i = 0; i < 511; i++) {
            x.night();
        }
        Check.due("the 512th call", x.count(6), 511);
        x = Check.house("room a;task t a 999;step t 1 99 9 1;man m a left t 0;night 600;");
        // Some ten calls went by with the text.
        for (int i = 0; i < 249; i++) {
            x.night();
            x.leave(0, 0, 0);
        }
        Check.due("nights", x.count(6), 249);
        Check.due("99 times, then ended", x.count(8), 99 * 9);
    }
}
