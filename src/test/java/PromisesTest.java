/** Each promise by hand: ordinary inputs, the edges that the document names, wrong inputs. */
public final class PromisesTest {
    private static final int FAR = 1000000000;
    private static final String WALL = "room a; room b; door a b 10; tool saw b; task wall b 5;"
        + "step wall 20 2 7 3 with saw; step wall 30 1 5 1 undoes 0; man tom a left wall 0; man ann b; night 100;";
    // One saw for two men who both begin at minute 0.
    private static final String SAW = "room a; tool saw a; task w a 9; step w 3 9 5 1 with saw; step w 4 9 1 1;"
        + "man x a left w 0; man y a left w 0; night 10;";
    // Each minute in room c spoils; the second step only keeps the task from being ended.
    private static final String SPOIL = "room a; room b; room c; door a b 1; door b c 1; door a c 5;"
        + "task t c 99; step t 1 0 0 1; step t 1 9 0 0; man m a left t 0;";

    private PromisesTest() { }

    public static void main(String[] args) {
        newObject();
        tape();
        facts();
        menAndTools();
        ways();
        byHand();
        tools();
        nightsEdges();
        nightsOrder();
        nightsEnds();
        undoing();
        evenings();
        forTwo();
        hiding();
        barring();
        places();
        found();
        slots();
        counts();
        askedAgain();
        fullHouse();
        wrongInputs();
        Check.end();
    }

    /** Promise 1. */
    private static void newObject() {
        SleepWork x = new SleepWork();
        for (int what = 0; what <= 12; what++) {
            Check.due("count of a new one " + what, x.count(what), what == 5 ? 480 : 0);
        }
        Check.due("place", x.place(), -1);
        Check.due("gain", x.gain(), 0);
        Check.due("night", x.night(), 0);
        Check.due("nights", x.count(6), 1);
        Check.due("bars", x.bars(1), 0);
        Check.due("suspects", x.suspects(0), 0);
        Check.due("forget", x.forget(), 0);
        Check.due("NONE", SleepWork.NONE, -1);
    }

    /** Promises 2, 3, 4, 5, 33. */
    private static void tape() {
        SleepWork x = new SleepWork();
        // "room a; room b" and six bytes that are none of a text's
        Check.due("feed", x.feed(0x726f6f6d, 0x20613b20, 0x726f6f6d, 0x2062ff00, 0x80000001), 20);
        Check.due("back below 0", x.back(-1), -1);
        Check.due("back too far", x.back(21), -1);
        Check.due("back none", x.back(0), 20);
        Check.due("count", x.count(9), 20);
        Check.due("read", x.read(), 1);
        Check.due("place", x.place(), 14);
        Check.due("empty then", x.count(9), 0);
        Check.due("back of none", x.back(1), -1);
        for (int i = 1; i <= 100; i++) {
            Check.due("feed", x.feed(0x20202020, 0x20202020, 0x20202020, 0x20202020, 0x20202020), 20 * i);
        }
        Check.due("full", x.feed(0, 0, 0, 0, 0), -1);
        Check.due("full", x.count(9), 2000);
        Check.due("back", x.back(19), 1981);
        Check.due("still too full", x.feed(0, 0, 0, 0, 0), -1);
        Check.due("back", x.back(1), 1980);
        Check.due("fits", x.feed(0x20202020, 0x20202020, 0x20202020, 0x20202020, 0x203b2020), 2000);
        Check.due("read", x.read(), 1);
        Check.due("place", x.place(), 1997);
        Check.feed(x, "room a;");
        Check.due("place stays till the next read", x.place(), 1997);
        Check.due("read", x.read(), 0);
        Check.due("place", x.place(), -1);
        Check.due("back all", x.back(0), 0);
    }

    /** Promises 6 and 7. */
    private static void facts() {
        SleepWork x = Check.house(WALL + "task sky a 999;");
        int[] wall = {1, 2, 5, 0, 0};
        int[] sky = {0, 0, 999, 0, 1};
        for (int what = 0; what < 5; what++) {
            Check.due("task wall " + what, x.task(0, what), wall[what]);
            Check.due("task sky " + what, x.task(1, what), sky[what]);
        }
        int[] first = {0, 20, 2, 7, 3, 0, -2};
        int[] second = {0, 30, 1, 5, 1, -2, 0};
        for (int what = 0; what < 7; what++) {
            Check.due("step 0 " + what, x.step(0, 0, what), first[what]);
            Check.due("step 1 " + what, x.step(0, 1, what), second[what]);
        }
        for (int what : new int[] {-1, 7, FAR, -FAR}) {
            Check.due("step what", x.step(0, 0, what), -1);
            Check.due("task what", x.task(0, what == 7 ? 5 : what), -1);
        }
        for (int other : new int[] {-1, 2, FAR, -FAR}) {
            Check.due("task", x.task(other, 2), -1);
            Check.due("step of no task", x.step(other, 0, 1), -1);
            Check.due("no step", x.step(0, other, 1), -1);
        }
        Check.due("no step of a task without", x.step(1, 0, 1), -1);
        x.work(0, 0);
        x.work(0, 0);
        x.work(0, 0);
        Check.due("worth: 2 times 7, less 3", x.task(0, 3), 11);
        Check.due("not ended", x.task(0, 4), 0);
        x.work(0, 1);
        Check.due("worth: 2 times 7, and 5", x.task(0, 3), 19);
        Check.due("ended", x.task(0, 4), 1);
        x.work(0, 1);
        Check.due("worth: 7, and 5, less 1", x.task(0, 3), 11);
        Check.due("no more ended", x.task(0, 4), 0);
        SleepWork y = Check.house("room a; task t a 3; step t 1 0 9 1;");
        y.work(0, 0);
        Check.due("worth may be -1", y.task(0, 3), -1);
        Check.due("ended with more than needed", y.task(0, 4), 1);
    }

    /** Promises 8 and 9. */
    private static void menAndTools() {
        SleepWork x = Check.house(WALL);
        int[] tom = {0, 0, 0, 0, 0, -2};
        int[] ann = {1, -2, -2, 0, 0, -2};
        for (int what = 0; what < 6; what++) {
            Check.due("man tom " + what, x.man(0, what), tom[what]);
            Check.due("man ann " + what, x.man(1, what), ann[what]);
        }
        for (int other : new int[] {-1, 2, FAR, -FAR}) {
            Check.due("man", x.man(other, 0), -1);
            Check.due("man what", x.man(0, other == 2 ? 6 : other), -1);
            Check.due("tool", x.tool(other == 2 ? 1 : other), -1);
        }
        Check.due("tool", x.tool(0), 1);
        x.night();
        x.night();
        int[] then = {0, 0, 0, 0, 4, 10};
        for (int what = 0; what < 6; what++) {
            Check.due("man tom behind two nights " + what, x.man(0, what), then[what]);
        }
    }

    /** Promise 10. */
    private static void ways() {
        SleepWork x = Check.house("room a; room b; room c; room d; door a b 7; door b a 9; door b c 8; door a c 60;"
            + "door c d 1 shut;");
        Check.due("self", x.way(3, 3), 0);
        Check.due("the shorter of two", x.way(1, 0), 7);
        Check.due("over b", x.way(0, 2), 15);
        Check.due("back", x.way(2, 0), 15);
        Check.due("shut", x.way(0, 3), -2);
        x.bar(4, false);
        Check.due("opened", x.way(3, 0), 16);
        x.bar(0, true);
        Check.due("round", x.way(0, 3), 18);
        x.bar(1, true);
        Check.due("far round", x.way(1, 0), 68);
        Check.due("no room", x.way(0, 4), -1);
        Check.due("no room", x.way(-1, 0), -1);
        Check.due("no room", x.way(FAR, -FAR), -1);
    }

    /** Promises 11 to 15. */
    private static void byHand() {
        SleepWork x = Check.house(WALL);
        Check.due("leave", x.leave(1, 0, 1), true);
        Check.due("left", x.man(1, 1) * 10 + x.man(1, 2), 1);
        Check.due("leave no step", x.leave(1, 0, 2), false);
        Check.due("leave no task", x.leave(1, 1, 0), false);
        Check.due("leave half", x.leave(1, 0, -1), false);
        Check.due("leave half", x.leave(1, -1, 0), false);
        Check.due("leave -2", x.leave(1, -2, -2), false);
        Check.due("left still", x.man(1, 2), 1);
        Check.due("leave nothing", x.leave(1, -1, -1), true);
        Check.due("left", x.man(1, 1), -2);
        Check.due("left", x.man(1, 2), -2);
        Check.due("no man", x.leave(2, -1, -1), false);
        Check.due("no man", x.leave(-1, 0, 0), false);
        Check.due("work", x.work(0, 1), true);
        Check.due("undoes none", x.step(0, 0, 0), 0);
        Check.due("work", x.work(0, 0), true);
        Check.due("work", x.work(0, 1), true);
        Check.due("undoes one", x.step(0, 0, 0), 0);
        Check.due("done", x.step(0, 1, 0), 2);
        Check.due("stuff", x.task(0, 2), 2);
        Check.due("no step", x.work(0, 2), false);
        Check.due("no task", x.work(1, 0), false);
        Check.due("no task", x.work(-1, -1), false);
        Check.due("work", x.work(0, 0), true);
        Check.due("work", x.work(0, 0), true);
        Check.due("no stuff", x.work(0, 0), false);
        Check.due("done", x.step(0, 0, 0), 2);
        Check.due("by day nobody did it", x.man(0, 4), 0);
        Check.due("lay", x.lay(0, 0), true);
        Check.due("tool", x.tool(0), 0);
        Check.due("lay nowhere", x.lay(0, 2), false);
        Check.due("lay nowhere", x.lay(0, -1), false);
        Check.due("lay nothing", x.lay(1, 0), false);
        Check.due("give", x.give(0, 1), true);
        Check.due("tool", x.tool(0), 101);
        Check.due("give nobody", x.give(0, 2), false);
        Check.due("give nothing", x.give(-1, 0), false);
        Check.due("bar", x.bar(0, true), true);
        Check.due("shut", x.count(7), 1);
        Check.due("bar again", x.bar(0, true), true);
        Check.due("shut", x.count(7), 1);
        Check.due("open", x.bar(0, false), true);
        Check.due("shut", x.count(7), 0);
        Check.due("no door", x.bar(1, true), false);
        Check.due("no door", x.bar(-1, true), false);
        Check.due("no door", x.bar(32, true), false);
    }

    /** Promise 16: tools that are waited for, that lie elsewhere, that one has. */
    private static void tools() {
        SleepWork x = Check.house(SAW);
        Check.due("the first man has it again and again", x.gain(), 15);
        Check.due("strokes of the first", x.strokes(0, 10), 3);
        Check.due("strokes of the second", x.strokes(1, 10), 0);
        Check.due("night", x.night(), 15);
        Check.due("stuff of a step not over is gone", x.task(0, 2), 5);
        Check.due("waiting is not lying down", x.man(1, 5), -2);
        Check.due("he still has it left", x.man(1, 2), 0);
        x = Check.house(SAW + "law y = if minute < 2 then 0 else 1;");
        Check.due("who waits looks at his law again", x.gain(), 17);
        Check.due("strokes", x.strokes(1, 5), 0);
        Check.due("strokes", x.strokes(1, 6), 1);
        Check.due("strokes", x.strokes(1, 10), 2);
        x = Check.house(SAW + "law x = times;");
        Check.due("free in the minute in which it is over", x.gain(), 5 + 10 + 1);
        Check.due("strokes", x.strokes(1, 6), 1);
        x.give(0, 1);
        x.night();
        Check.due("another has it: he lies down", x.man(0, 5), 0);
        Check.due("and has left the same", x.man(0, 2), 0);
        Check.due("who has it works", x.man(1, 3), 3);
        x = Check.house(SAW + "room b;");
        x.lay(0, 1);
        x.night();
        Check.due("it lies elsewhere", x.man(0, 5) + x.man(1, 5), 0);
        Check.due("no stuff is used", x.task(0, 2), 9);
        x.give(0, 0);
        x.lay(0, 0);
        Check.due("it lies there again", x.gain(), 15);
    }

    /** Promise 16: the edges of a night. */
    private static void nightsEdges() {
        String far = "room a; room b; door a b 5; task t b 9; step t 5 9 1 0; man m a left t 0;";
        SleepWork x = Check.house(far + "night 10;");
        Check.due("over at the last minute", x.night(), 1);
        Check.due("none begins then", x.task(0, 2), 8);
        x = Check.house(far + "night 9;");
        Check.due("not over", x.night(), 0);
        Check.due("its stuff is gone", x.task(0, 2), 8);
        Check.due("not lain down", x.man(0, 5), -2);
        x = Check.house(far + "night 5;");
        Check.due("there too late", x.night(), 0);
        Check.due("none begun", x.task(0, 2), 9);
        Check.due("where", x.where(0, 5), 1);
        x = Check.house(far + "night 4;");
        Check.due("on his way all night", x.night(), 0);
        Check.due("where", x.where(0, 4), 0);
        Check.due("not lain down", x.man(0, 5), -2);
        x = Check.house(far);
        x.bar(0, true);
        Check.due("no way", x.night(), 0);
        Check.due("lies down at minute 0", x.man(0, 5), 0);
        Check.due("has left it still", x.man(0, 1), 0);
        Check.due("where", x.where(0, 480), 0);
        x.leave(0, -1, -1);
        x.night();
        Check.due("did not get up", x.man(0, 5), -2);
        x = Check.house("room a; task t a 3; step t 2 9 1 0; man m a left t 0; night 100;");
        Check.due("stuff runs out", x.night(), 3);
        Check.due("and he lies down", x.man(0, 5), 6);
        Check.due("but has left it", x.man(0, 1), 0);
        x = Check.house("room a; task t a 3; step t 2 3 1 0; man m a left t 0; night 100;");
        x.night();
        Check.due("ended as stuff runs out: ended", x.man(0, 1), -2);
        Check.due("lain down", x.man(0, 5), 6);
        x = Check.house("room a; task t a 2; step t 2 2 1 0; man m a left t 0; night 4;");
        x.night();
        Check.due("ended at the last minute: nobody looks", x.man(0, 1), 0);
        Check.due("not lain down", x.man(0, 5), -2);
    }

    /** Promise 16: within a minute all goes man by man, what is over ahead of what begins. */
    private static void nightsOrder() {
        String undo = "room a; task t a 9; step t 2 5 3 0; step t 2 5 0 0 undoes 0;";
        SleepWork x = Check.house(undo + "man x a left t 0; man y a left t 1; night 2;");
        Check.due("done, then undone", x.gain(), 0);
        x = Check.house(undo + "man y a left t 1; man x a left t 0; night 2;");
        Check.due("nothing to undo, then done", x.gain(), 3);
        x = Check.house("room a; task t a 1; step t 1 9 1 0; step t 1 9 5 0; man x a left t 1; man y a left t 0; night 9;");
        Check.due("the first takes the last stuff", x.night(), 5);
        Check.due("the second lies down", x.man(1, 5), 0);
        Check.due("the first a minute later", x.man(0, 5), 1);
        x = Check.house("room a; task t a 9; step t 1 1 1 0; step t 3 1 1 0 undoes 0; man x a left t 1; man y a left t 0;"
            + "night 9; law y = if minute < 2 then 0 else 1;");
        // y does 0 till 1 and again till 2, then begins 1; x undoes at 3, y at 5; the rest goes on.
        Check.due("strokes", x.strokes(1, 2), 2);
        Check.due("strokes", x.strokes(1, 5), 3);
        x = Check.house("room a; task t a 9; step t 1 1 1 0; step t 1 1 1 0; man x a left t 0; man y a left t 1; night 9;");
        x.night();
        Check.due("all that is over counts ahead of who begins", x.man(0, 5), 1);
        Check.due("both", x.man(1, 5), 1);
        Check.due("nothing begun then", x.task(0, 2), 7);
        Check.due("both left nothing", x.man(0, 1) + x.man(1, 1), -4);
    }

    /** Promise 16: what is left behind a night, and a text that is told by laws. */
    private static void nightsEnds() {
        SleepWork x = Check.house("room a; task t a 99; step t 2 9 1 0; step t 3 9 2 0; step t 4 9 4 0; man m a left t 0;"
            + "law m = last + 1; night 8;");
        // 1 till 3, 2 till 7, 2 again and not over
        Check.due("night", x.night(), 6);
        Check.due("left what was over last", x.man(0, 2), 2);
        Check.due("strokes", x.man(0, 3), 2);
        Check.due("stuff", x.task(0, 2), 96);
        Check.due("next night", x.night(), 8);
        Check.due("strokes", x.man(0, 3), 2);
        Check.due("in all", x.man(0, 4), 4);
        x = Check.house("room a; task t a 99; step t 9 9 1 0; step t 9 9 2 0; man m a left t 1; law m = 0; night 8;");
        x.night();
        Check.due("none was over: what he left", x.man(0, 2), 1);
        x = Check.house("room a; task t a 99; step t 1 9 1 0; step t 1 9 2 0; man m a left t 1;"
            + "law m = if done < 2 then last else last - 1; night 5;");
        Check.due("done is that of last", x.night(), 2 + 2 + 1 + 1 + 1);
        x = Check.house("room a; task t a 6; step t 1 9 1 0; step t 1 9 2 0; man m a left t 0; law m = 4 - stuff; night 9;");
        Check.due("stuff is what is left before he begins", x.night(), 3 * 1 + 3 * 2);
        x = Check.house("room a; room b; door a b 2; task t b 9; step t 1 9 1 0; step t 1 9 2 0; man m a left t 0;"
            + "law m = minute - 3; night 6;");
        Check.due("minute is that of the night", x.night(), 1 + 1 + 2 + 2);
        x = Check.house("room a; task t a 9; step t 1 9 1 0; man m a left t 0; night 2;");
        for (int i = 0; i < 4; i++) {
            x.night();
        }
        Check.due("eight are done", x.step(0, 0, 0), 8);
        Check.due("the ninth, then ended", x.night(), 1);
        Check.due("lain down", x.man(0, 5), 1);
        Check.due("nothing left", x.man(0, 1), -2);
        Check.due("in all", x.man(0, 4), 9);
    }

    /** Promise 17. */
    private static void undoing() {
        SleepWork x = Check.house("room a; room b; door a b 1; tool o a; task t a 999; step t 1 99 1 0; man m a left t 0; night 1;");
        Check.due("none", x.undo(), false);
        x.work(0, 0);
        x.night();
        x.night();
        x.work(0, 0);
        x.bar(0, true);
        x.lay(0, 1);
        x.leave(0, -1, -1);
        x.tell(0, 0, 5);
        Check.due("done", x.step(0, 0, 0), 4);
        Check.due("undo", x.undo(), true);
        Check.due("done", x.step(0, 0, 0), 2);
        Check.due("stuff", x.task(0, 2), 997);
        Check.due("shut", x.count(7), 0);
        Check.due("tool", x.tool(0), 0);
        Check.due("left", x.man(0, 1), 0);
        Check.due("in all", x.man(0, 4), 1);
        Check.due("of the night ahead", x.man(0, 3), 1);
        Check.due("told stays", x.count(11), 1);
        Check.due("nights", x.count(6), 1);
        Check.due("undo", x.undo(), true);
        Check.due("by hand ahead of it stays", x.step(0, 0, 0), 1);
        Check.due("no night", x.man(0, 3), 0);
        Check.due("none", x.undo(), false);
        for (int i = 0; i < 25; i++) {
            x.night();
            Check.due("undoable", x.count(10), Math.min(20, i + 1));
        }
        for (int i = 0; i < 20; i++) {
            Check.due("undo", x.undo(), true);
        }
        Check.due("the last 20 only", x.undo(), false);
        Check.due("nights", x.count(6), 5);
        Check.due("done", x.step(0, 0, 0), 6);
        x.night();
        Check.due("undo", x.undo(), true);
        Check.due("done", x.step(0, 0, 0), 6);
    }

    /** Promises 18, 19, 21. */
    private static void evenings() {
        SleepWork x = Check.house("room a; task t a 9; step t 1 3 2 5; step t 1 1 9 1; step t 1 1 9 1; task u a 9;"
            + "step u 5 1 9 0; man m a left t 0; man n a; night 5;");
        // Five times 0: 6 less 10. Five times 1: 9 less 4; likewise 2. The task u: 9.
        Check.due("gain", x.gain(), -4);
        Check.due("nothing happens", x.step(0, 0, 0), 0);
        Check.due("best gain", x.best(0, 0), 9);
        Check.due("best", x.best(0, 1), 10);
        Check.due("hire", x.hire(0), 9);
        // The other one does 0 as well, so nothing is best for him but u, and t goes -4.
        Check.due("best gain of the other", x.best(1, 0), 5);
        Check.due("best of the other", x.best(1, 1), 10);
        Check.due("hire of the other", x.hire(1), 9);
        x.leave(0, 1, 0);
        Check.due("asked anew", x.gain(), 9);
        Check.due("two for u spoil nothing, 1 and 2 alike: the first", x.best(1, 1), 1);
        Check.due("gain", x.best(1, 0), 14);
        Check.due("nothing happens", x.man(1, 1), -2);
        Check.due("what", x.best(0, 2), -1);
        Check.due("what", x.best(0, -1), -1);
        Check.due("nobody", x.best(2, 0), -1);
        Check.due("nobody", x.best(-1, 1), -1);
        Check.due("nobody", x.hire(2), -1000000);
        Check.due("nobody", x.hire(-1), -1000000);
        x = Check.house("room a; task t a 9; step t 1 9 0 1; man m a left t 0; man n a; night 5;");
        Check.due("alike: nothing ahead of all", x.best(0, 1), -2);
        Check.due("hire for nothing", x.hire(0), 0);
        x = Check.house("room a; task t a 1; step t 1 0 0 1; step t 1 1 0 0; man m a left t 0; man n a; night 5;");
        Check.due("gain may be -1", x.gain(), -1);
        Check.due("best may be -1", x.best(1, 0), -1);
        Check.due("for nothing", x.best(1, 1), -2);
    }

    /** Promise 20. */
    private static void forTwo() {
        SleepWork x = Check.house(WALL);
        Check.due("gain", x.bestOfTwo(0, 1, 0), 11);
        Check.due("first", x.bestOfTwo(0, 1, 1), 0);
        Check.due("other", x.bestOfTwo(0, 1, 2), 1);
        Check.due("gain", x.bestOfTwo(1, 0, 0), 11);
        Check.due("first", x.bestOfTwo(1, 0, 1), 0);
        Check.due("other", x.bestOfTwo(1, 0, 2), 1);
        for (int other : new int[] {-1, 2, FAR}) {
            Check.due("nobody", x.bestOfTwo(0, other, 0), -1);
            Check.due("nobody", x.bestOfTwo(other, 0, 0), -1);
        }
        Check.due("the same", x.bestOfTwo(1, 1, 0), -1);
        Check.due("what", x.bestOfTwo(0, 1, 3), -1);
        Check.due("what", x.bestOfTwo(0, 1, -1), -1);
        x = Check.house("room a; task t a 9; step t 5 1 4 9; man m a; man n a; night 5;");
        Check.due("one is enough", x.bestOfTwo(0, 1, 0), 4);
        Check.due("the first leaves nothing ahead", x.bestOfTwo(0, 1, 1), -2);
        Check.due("the other does it", x.bestOfTwo(0, 1, 2), 0);
        Check.due("likewise turned round", x.bestOfTwo(1, 0, 1), -2);
        Check.due("likewise turned round", x.bestOfTwo(1, 0, 2), 0);
    }

    /** Promise 22. */
    private static void hiding() {
        SleepWork x = Check.house(WALL);
        Check.due("gain", x.hide(0, 0), 8);
        Check.due("the room ahead of the man", x.hide(0, 1), 1);
        Check.due("nothing happens", x.tool(0), 1);
        x = Check.house(SPOIL + "tool o c; task s a 99; step s 1 9 1 0 with o; man n b left s 0; man l c left s 0; night 9;");
        // n is there at 1, l at 2: with the tool in a, n works 8 times; with n himself as well.
        Check.due("gain", x.hide(0, 0), 8 - 7);
        Check.due("the first room", x.hide(0, 1), 0);
        x = Check.house("room a; room b; tool o a; task t a 9; step t 1 0 0 1 with o; step t 1 1 1 0; man m a left t 0; night 9;");
        Check.due("hidden away", x.hide(0, 0), 0);
        Check.due("in b", x.hide(0, 1), 1);
        x = Check.house("room a; tool o a; task t a 9; step t 1 1 1 0 with o; step t 1 9 0 5 with o; man m a left t 0;"
            + "man n a left t 1; law n = 1; night 9;");
        x.give(0, 1);
        Check.due("alike: the room, though a man has it", x.hide(0, 1), 0);
        x = Check.house("room a; tool o a; task t a 9; step t 2 0 0 5 with o; step t 1 9 3 0 with o; man m a left t 0; man n a left t 1;"
            + "night 4;");
        Check.due("a man", x.hide(0, 1), 101);
        Check.due("gain", x.hide(0, 0), 12);
        x = Check.house("room a; tool o a; task t a 9; step t 1 0 0 1 with o; step t 1 1 1 0; man m a left t 0; night 3;");
        Check.due("it must be somewhere", x.hide(0, 0), -3);
        Check.due("what", x.hide(0, 2), -1);
        Check.due("what", x.hide(0, -1), -1);
        Check.due("no tool", x.hide(1, 0), -1);
        Check.due("no tool", x.hide(-1, 0), -1);
    }

    /** Promise 23. */
    private static void barring() {
        SleepWork x = Check.house(SPOIL + "night 9;");
        Check.due("gain", x.gain(), -7);
        Check.due("shut in", x.bars(0), 0);
        Check.due("two doors, the least bits", x.bars(1), 5);
        Check.due("nothing happens", x.count(7), 0);
        x = Check.house(SPOIL + "night 5;");
        Check.due("the long way is too long", x.bars(0), 0);
        Check.due("one door, the least bits", x.bars(1), 1);
        x.leave(0, -1, -1);
        x.bar(0, true);
        x.bar(1, true);
        Check.due("nobody goes: none shut, though some are", x.bars(1), 0);
        Check.due("what", x.bars(2), -1);
        Check.due("what", x.bars(-1), -1);
        x = Check.house("room a; room b; door a b 1 shut; task t b 99; step t 1 9 1 0; man m a left t 0; night 5;");
        Check.due("opened", x.bars(0), 4);
        Check.due("none shut", x.bars(1), 0);
        x = Check.house("room a; room b; door a b 1; door a b 2; door a b 3; task t b 99; step t 1 2 3 1; step t 1 9 0 0;"
            + "man m a left t 0; night 5;");
        // There at 1: 6 less 2; at 2: 6 less 1; at 3: 6.
        Check.due("the slow door", x.bars(0), 6);
        Check.due("two shut", x.bars(1), 3);
    }

    /** Promises 24 and 25. */
    private static void places() {
        SleepWork x = Check.house(WALL);
        Check.due("home", x.where(0, 0), 0);
        Check.due("on his way", x.where(0, 9), 0);
        Check.due("there", x.where(0, 10), 1);
        Check.due("still", x.where(0, 100), 1);
        Check.due("left nothing", x.where(1, 0), 1);
        x.work(0, 0);
        x.lay(0, 0);
        Check.due("lain down there", x.where(0, 99), 1);
        x.lay(0, 1);
        Check.due("none", x.strokes(0, 29), 0);
        Check.due("one", x.strokes(0, 30), 1);
        Check.due("as before", x.strokes(0, 0), 0);
        Check.due("four", x.strokes(0, 100), 4);
        Check.due("left nothing", x.strokes(1, 100), 0);
        Check.due("nothing happens", x.step(0, 0, 0), 1);
        for (int minute : new int[] {-1, 101, FAR}) {
            Check.due("no minute", x.where(0, minute), -1);
            Check.due("no minute", x.strokes(0, minute), -1);
        }
        for (int man : new int[] {-1, 2, FAR}) {
            Check.due("nobody", x.where(man, 0), -1);
            Check.due("nobody", x.strokes(man, 0), -1);
        }
    }

    /** Promises 26 to 30. */
    private static void found() {
        SleepWork x = Check.house(WALL);
        Check.due("tell", x.tell(0, 0, 4), 0);
        Check.due("only what tom left", x.fits(0, 1, -1), 1);
        Check.due("that", x.fits(0, 1, 0), 0);
        Check.due("not so many", x.fits(0, 1, 1), -1);
        Check.due("ann only nothing", x.fits(1, 1, 0), -2);
        Check.due("so nobody else", x.suspects(1), 0);
        Check.due("unknown: all", x.fits(1, 0, -1), 3);
        Check.due("nothing first", x.fits(1, 0, 0), -2);
        Check.due("then by steps", x.fits(1, 0, 1), 0);
        Check.due("then by steps", x.fits(1, 0, 2), 1);
        Check.due("i", x.fits(1, 0, 3), -1);
        Check.due("i", x.fits(1, 0, -2), -1);
        Check.due("all", x.suspects(0), 3);
        Check.due("pairs unknown", x.pairs(0, 1, 0), 9);
        // Four times 0: both at it, or one, and the other not at 1.
        Check.due("pairs", x.pairs(0, 1, 1), x.pairs(1, 0, 1));
        Check.due("forget", x.forget(), 1);
        Check.due("forget", x.forget(), 0);
        Check.due("no k", x.fits(0, 1, -1), -1);
        Check.due("no k", x.suspects(1), -1);
        Check.due("no k", x.pairs(0, 1, 1), -1);
        Check.due("no k", x.suspects(-1), -1);
        Check.due("tell", x.tell(0, 0, 1), 0);
        Check.due("tell", x.tell(0, 1, 2), 1);
        Check.due("asked anew", x.fits(0, 1, -1), 0);
        Check.due("ann did the other", x.fits(1, 2, 0), 1);
        Check.due("ann", x.suspects(2), 2);
        Check.due("pairs", x.pairs(0, 1, 2), 2);
        x.tell(0, 0, 2);
        Check.due("what contradicts itself fits nobody", x.suspects(3), 0);
        Check.due("none", x.fits(1, 3, -1), 0);
        Check.due("none", x.pairs(1, 0, 3), 0);
        Check.due("the first two are as before", x.suspects(2), 2);
        Check.due("no times", x.tell(0, 0, 1000), -1);
        Check.due("no times", x.tell(0, 0, -1), -1);
        Check.due("no step", x.tell(0, 2, 0), -1);
        Check.due("no task", x.tell(1, 0, 0), -1);
        for (int i = 3; i < 30; i++) {
            Check.due("tell", x.tell(0, 0, 999), i);
        }
        Check.due("full", x.tell(0, 0, 0), -1);
        Check.due("told", x.count(11), 30);
        Check.due("nobody", x.fits(2, 0, -1), -1);
        Check.due("nobody", x.pairs(0, 2, 0), -1);
        Check.due("nobody", x.pairs(-1, 0, 0), -1);
        Check.due("the same", x.pairs(0, 0, 0), -1);
        Check.due("forget", x.forget(), 30);
        x = Check.house("room a; man m a;");
        Check.due("only nothing, which he left", x.suspects(0), 0);
        Check.due("nothing fits", x.fits(0, 0, 0), -2);
    }

    /** Promises 31 and 32. */
    private static void slots() {
        SleepWork x = Check.house(WALL);
        Check.due("nothing held", x.restore(0), false);
        x.night();
        x.give(0, 0);
        x.bar(0, true);
        Check.due("hold", x.hold(0), true);
        Check.due("undo stays", x.count(10), 1);
        Check.due("undo", x.undo(), true);
        x.tell(0, 0, 1);
        Check.due("hold", x.hold(2), true);
        Check.due("held", x.count(12), 2);
        x.night();
        Check.due("restore", x.restore(0), true);
        Check.due("nights", x.count(6), 1);
        Check.due("stuff", x.task(0, 2), 0);
        Check.due("done", x.step(0, 0, 0), 4);
        Check.due("tool", x.tool(0), 100);
        Check.due("shut", x.count(7), 1);
        Check.due("strokes", x.man(0, 3), 4);
        Check.due("told stays", x.count(11), 1);
        Check.due("nothing can be undone", x.undo(), false);
        x.night();
        Check.due("nights", x.count(6), 2);
        Check.due("what is held stays", x.restore(0), true);
        Check.due("nights", x.count(6), 1);
        Check.due("restore", x.restore(2), true);
        Check.due("nights", x.count(6), 0);
        Check.due("stuff", x.task(0, 2), 5);
        Check.due("asked anew", x.gain(), 8);
        Check.due("hold over", x.hold(0), true);
        Check.due("held", x.count(12), 2);
        x.work(0, 0);
        Check.due("restore", x.restore(0), true);
        Check.due("stuff", x.task(0, 2), 5);
        for (int slot : new int[] {-1, 3, 32, FAR}) {
            Check.due("no slot", x.hold(slot), false);
            Check.due("no slot", x.restore(slot), false);
        }
        x.night();
        Check.due("none held", x.restore(1), false);
        Check.due("nothing happens", x.count(10), 1);
        x = Check.house(WALL);
        x.feed(0, 0, 0, 0, 0);
        x.hold(1);
        x.feed(0, 0, 0, 0, 0);
        x.restore(1);
        Check.due("the tape goes its own way", x.count(9), 40);
    }

    /** Promise 33. */
    private static void counts() {
        SleepWork x = Check.house(WALL + "door b a 7 shut; task sky a 3; step sky 1 0 0 4;");
        x.night();
        x.work(1, 0);
        x.tell(0, 0, 0);
        x.hold(2);
        x.feed(0, 0, 0, 0, 0);
        int[] due = {2, 2, 1, 2, 2, 100, 1, 1, 8 - 4, 20, 1, 1, 1};
        for (int what = 0; what < due.length; what++) {
            Check.due("count " + what, x.count(what), due[what]);
        }
        Check.due("what", x.count(13), -1);
        Check.due("what", x.count(-1), -1);
        Check.due("what", x.count(FAR), -1);
    }

    /** Promises 18 to 30: a question asked again behind a change has another answer. */
    private static void askedAgain() {
        SleepWork x = Check.house(WALL);
        Check.due("best", x.best(0, 0), 8);
        x.lay(0, 0);
        Check.due("behind lay", x.best(0, 0), 3);
        x.lay(0, 1);
        Check.due("behind lay", x.best(0, 0), 8);
        x.give(0, 1);
        Check.due("behind give", x.best(0, 0), 3);
        x.give(0, 0);
        Check.due("behind give", x.best(0, 0), 8);
        x.bar(0, true);
        Check.due("behind bar", x.best(0, 0), 0);
        x.bar(0, false);
        Check.due("behind bar", x.best(0, 0), 8);
        x.tell(0, 0, 4);
        Check.due("told 4", x.fits(0, 1, 0), 0);
        x.forget();
        x.tell(0, 0, 0);
        Check.due("told 0 instead", x.fits(0, 1, 0), -2);
        x = Check.house("room a; task t a 9; step t 1 3 5 2; step t 1 9 0 1; man m a left t 0; man n a; night 2;");
        Check.due("3 times 5, less 2", x.best(1, 0), 13);
        x.leave(0, -1, -1);
        Check.due("behind leave", x.best(1, 0), 10);
        x.work(0, 0);
        x.work(0, 0);
        Check.due("behind work", x.best(1, 0), 3);
        x.hold(0);
        x.leave(1, 0, 0);
        x.best(1, 0);
        x.night();
        Check.due("behind a night", x.best(1, 0), 0);
        x.undo();
        Check.due("behind undo", x.best(1, 0), 3);
        x.work(0, 0);
        Check.due("behind work", x.best(1, 0), 0);
        x.restore(0);
        Check.due("behind restore", x.best(1, 0), 3);
        Check.feed(x, "room a; task t a 5; step t 1 5 9 0; man m a; man n a;");
        x.read();
        Check.due("behind read", x.best(1, 0), 45);
        for (int i = 0; i < 60; i++) {
            Check.feed(x, "room a; task t a 5; step t 1 5 9 0; step t 1 5 1 0; man m a left t 0; law m = 1 + 1 - 1; night 1;");
            x.read();
            Check.due("laws have space anew", x.gain(), 1);
        }
    }

    /** All that a text has space for: 36 steps, 6 men. */
    private static void fullHouse() {
        StringBuilder text = new StringBuilder("room a;");
        for (char task = 'b'; task <= 'g'; task++) {
            text.append("task ").append(task).append(" a 1;");
            for (int step = 0; step < 6; step++) {
                text.append("step ").append(task).append(" 1 1 ").append(step).append(" 0;");
            }
        }
        for (char man = 'm'; man <= 'r'; man++) {
            text.append("man ").append(man).append(" a;");
        }
        SleepWork x = Check.house(text.toString());
        Check.due("all fit", x.fits(5, 0, -1), 37);
        Check.due("the last", x.fits(5, 0, 36), 55);
        Check.due("no more", x.fits(5, 0, 37), -1);
        Check.due("all pairs", x.pairs(4, 5, 0), 37 * 37);
        Check.due("all men", x.suspects(0), 63);
        Check.due("best", x.best(5, 0), 5);
        Check.due("the first one", x.best(5, 1), 5);
        Check.due("two", x.bestOfTwo(5, 4, 0), 10);
        Check.due("first", x.bestOfTwo(5, 4, 1), 5);
        Check.due("other", x.bestOfTwo(5, 4, 2), 15);
        Check.due("leave", x.leave(5, 5, 5), true);
        Check.due("night", x.night(), 5);
        Check.due("in all", x.man(5, 4), 1);
        Check.due("last step", x.step(5, 5, 0), 1);
    }

    /** Nothing may throw, whatever is asked, in an empty house as in a full one. */
    private static void wrongInputs() {
        int[] odd = {Integer.MIN_VALUE, -FAR, -2, -1, 0, 1, 5, 6, 7, 11, 12, 31, 32, 33, 99, 100, 101, FAR, Integer.MAX_VALUE};
        SleepWork[] houses = {new SleepWork(), Check.house(WALL), Check.house(SAW)};
        for (SleepWork x : houses) {
            for (int a : odd) {
                x.task(a, 0);
                x.tool(a);
                x.hire(a);
                x.bars(a);
                x.suspects(a);
                x.hold(a);
                x.restore(a);
                x.count(a);
                x.back(a);
                x.bar(a, true);
                for (int b : odd) {
                    x.task(0, b);
                    x.man(a, b);
                    x.way(a, b);
                    x.work(a, b);
                    x.lay(a, b);
                    x.give(a, b);
                    x.best(a, b);
                    x.hide(a, b);
                    x.where(a, b);
                    x.strokes(a, b);
                    x.step(a, b, a);
                    x.leave(a, b, a);
                    x.bestOfTwo(a, b, 0);
                    x.tell(a, b, 0);
                    x.fits(a, b, a);
                    x.pairs(a, b, 0);
                }
            }
        }
        Check.due("still there", houses[1].count(0), 2);
    }
}
