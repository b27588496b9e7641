/** Edges of a night and of a task, sentence by sentence: part II of the terms, promise 16. */
public final class EdgeNightsTest {
    private EdgeNightsTest() { }

    public static void main(String[] args) {
        ended();
        worth();
        getsUp();
        waysThere();
        noWay();
        heldToSteps();
        taskEnded();
        stuffRunsOut();
        toolThere();
        toolOfAMan();
        waits();
        waitsTillTheEnd();
        takesItsMinutes();
        stuffAtOnce();
        undoesIfDone();
        notOver();
        orderOfAMinute();
        lastMinute();
        leftBehindANight();
        longestNight();
        Check.end();
    }

    private static void ended() {
        Check.says("A TASK is ENDED if each of its STEPS is done NEED times or more (one without STEPS is).");
        SleepWork x = Check.house("room a;task t a 9;task u a 0;step t 1 2 1 1;step t 1 1 1 1;step t 1 0 1 1;task v a 5;step v 1 0 9 9;");
        Check.due("none done", x.task(0, 4), 0);
        Check.due("without steps", x.task(1, 4), 1);
        Check.due("a need of 0", x.task(2, 4), 1);
        x.work(0, 0);
        x.work(0, 1);
        Check.due("one short", x.task(0, 4), 0);
        x.work(0, 0);
        Check.due("each as needed", x.task(0, 4), 1);
        x.work(0, 0);
        x.work(0, 2);
        Check.due("more than needed", x.task(0, 4), 1);
        x = Check.house("room a;task t a 999;step t 1 99 1 1;");
        for (int i = 0; i < 98; i++) {
            x.work(0, 0);
        }
        Check.due("98 of 99", x.task(0, 4), 0);
        x.work(0, 0);
        Check.due("99 of 99", x.task(0, 4), 1);
        // Six steps, and the steps of the tasks about it are not done.
        x = Check.house("room a;task s a 9;step s 1 1 1 1;task t a 9;task u a 9;" + Check.many("step t 1 1 1 1;", 6) + Check.many("step u 1 1 1 1;", 6));
        for (int step = 0; step < 6; step++) {
            Check.due("not yet", x.task(1, 4), 0);
            x.work(1, step);
        }
        Check.due("each of six", x.task(1, 4), 1);
        Check.due("not the one ahead", x.task(0, 4), 0);
        Check.due("not the one behind", x.task(2, 4), 0);
    }

    private static void worth() {
        Check.says("WORTH of a TASK: of each STEP GAIN times how often it is done, up to NEED, less SPOIL times how often it is done more.");
        SleepWork x = Check.house("room a;task t a 9;step t 1 2 7 3;step t 1 0 9 99;task u a 9;step u 1 99 99 99;");
        int[] due = {7, 14, 11, 8};
        for (int worth : due) {
            x.work(0, 0);
            Check.due("worth", x.task(0, 3), worth);
        }
        x.work(0, 1);
        Check.due("a need of 0 spoils at once", x.task(0, 3), 8 - 99);
        x.work(1, 0);
        Check.due("the other task", x.task(1, 3), 99);
        Check.due("all", x.count(8), 8 - 99 + 99);
        x = Check.house("room a;task t a 999;step t 1 99 99 99;man m a left t 0;man n a left t 0;night 600;");
        x.leave(1, -1, -1);
        Check.due("99 times 99, then ended", x.night(), 99 * 99);
        x = Check.house("room a;task t a 999;step t 1 99 99 99;step t 1 1 0 0;man m a left t 0;man n a left t 0;night 600;");
        Check.due("999 in all", x.night(), 99 * 99 - 900 * 99);
        Check.due("done", x.step(0, 0, 0), 999);
        Check.due("stuff", x.task(0, 2), 0);
    }

    private static void getsUp() {
        Check.says("each MAN who LEFT something gets up at minute 0");
        String text = "room a;room b;door a b 1;task t a 99;step t 1 99 1 0;man m a left t 0;man n a;man k b left t 0;night ";
        SleepWork x = Check.house(text + "1;");
        Check.due("all that can be in one minute", x.night(), 1);
        Check.due("the first", x.man(0, 3), 1);
        Check.due("who left nothing", x.man(1, 3), 0);
        Check.due("he did not get up, so he did not lie down", x.man(1, 5), -2);
        Check.due("on his way", x.man(2, 3), 0);
        Check.due("on his way he does not lie down", x.man(2, 5), -2);
        x = Check.house(text + "2;");
        Check.due("both of them", x.night(), 2 + 1);
        // Six men, each of whom left something else, all get up.
        StringBuilder six = new StringBuilder("room a;task t a 99;" + Check.many("step t 1 99 1 0;", 6));
        for (int man = 0; man < 6; man++) {
            six.append("man ").append((char) ('c' + man)).append(" a left t ").append(5 - man).append(";");
        }
        x = Check.house(six + "night 1;");
        Check.due("six of them", x.night(), 6);
        for (int man = 0; man < 6; man++) {
            Check.due("each his own", x.step(0, man, 0) * 10 + x.man(man, 2), 10 + 5 - man);
        }
    }

    private static void waysThere() {
        Check.says("goes from HOME to the ROOM of his TASK by open DOORS, the fewest MINUTES");
        String text = "room a;room b;room c;door a b 3;door b c 3;door a c 7;task t c 99;step t 1 99 1 0;man m a left t 0;night 9;";
        SleepWork x = Check.house(text);
        Check.due("six minutes", x.gain(), 3);
        x.bar(0, true);
        Check.due("seven minutes", x.gain(), 2);
        x.bar(0, false);
        x.bar(1, true);
        Check.due("seven minutes", x.gain(), 2);
        x.bar(2, true);
        Check.due("no way", x.gain(), 0);
        x = Check.house("room a;room b;room c;room d;door b a 3;door a c 4;door c d 1 shut;door d b 1;task t c 99;step t 1 99 1 0;man m b left t 0;night 9;");
        Check.due("over the first room", x.way(1, 2), 7);
        Check.due("over the first room", x.gain(), 2);
        x.bar(2, false);
        Check.due("over the last room", x.way(1, 2), 2);
        Check.due("over the last room", x.gain(), 7);
        x = Check.house(text + "man n c left t 0;");
        Check.due("at home: at minute 0", x.strokes(1, 1), 1);
        Check.due("not yet", x.strokes(1, 0), 0);
        // Seven doors of an hour each: the longest way there can be.
        StringBuilder far = new StringBuilder(Check.many("room #;", 8));
        for (char room = 'c'; room < 'j'; room++) {
            far.append("door ").append(room).append(' ').append((char) (room + 1)).append(" 60;");
        }
        String long8 = far + "task t j 99;step t 1 99 1 0;man m c left t 0;night ";
        x = Check.house(long8 + "421;");
        Check.due("way", x.way(0, 7), 420);
        Check.due("one minute is left", x.gain(), 1);
        Check.due("all that come in it", x.bars(0), 1);
        Check.due("none begins", Check.house(long8 + "420;").gain(), 0);
        Check.due("none begins", Check.house(long8 + "419;").gain(), 0);
    }

    private static void noWay() {
        Check.says("(without a way he lies down again at minute 0, for all the NIGHT)");
        SleepWork x = Check.house("room a;room b;door a b 1 shut;task t b 99;step t 1 99 1 0;man m a left t 0;night 9;");
        Check.due("night", x.night(), 0);
        Check.due("lay down", x.man(0, 5), 0);
        Check.due("steps", x.man(0, 3), 0);
        Check.due("stuff", x.task(0, 2), 99);
        Check.due("he has left it still", x.man(0, 1) * 10 + x.man(0, 2), 0);
        x.bar(0, false);
        Check.due("night", x.night(), 8);
        Check.due("did not lie down", x.man(0, 5), -2);
        x = Check.house("room a;room b;task t b 99;step t 1 0 1 0;man m a left t 0;night 9;");
        x.night();
        Check.due("the task is ended, but he lay down for want of a way", x.man(0, 1), 0);
    }

    /** What a law tells is held to the steps: the step that is done in the one minute of the night. */
    private static int held(int steps, String law) {
        SleepWork x = Check.house("room a;task t a 9;" + Check.many("step t 1 9 1 1;", steps) + "man m a left t 0;law m=" + law + ";night 1;");
        x.night();
        for (int step = 0; step < steps; step++) {
            if (x.step(0, step, 0) == 1) {
                return step;
            }
        }
        return -1;
    }

    private static void heldToSteps() {
        Check.says("that which his LAW tells, held to 0 .. STEPS less 1 of the TASK");
        for (int steps = 1; steps <= 6; steps++) {
            Check.due("below 0", held(steps, "0-1"), 0);
            Check.due("least", held(steps, "0"), 0);
            Check.due("most", held(steps, "steps-1"), steps - 1);
            Check.due("above", held(steps, "steps"), steps - 1);
            Check.due("above", held(steps, "9999"), steps - 1);
            Check.due("far below", held(steps, "0-9999*9999"), 0);
            Check.due("the least int", held(steps, "0-(9999*9999*21+9999*4790+8416)-1"), 0);
            Check.due("the most", held(steps, "9999*9999*21+9999*4790+8416"), steps - 1);
        }
        Check.due("one below the most", held(6, "4"), 4);
    }

    private static void taskEnded() {
        Check.says("He can't and LIES DOWN for the NIGHT: if the TASK is ENDED");
        String text = "room a;task t a 9;step t 1 2 1 5;man m a left t 0;night 9;";
        SleepWork x = Check.house(text);
        Check.due("twice and no more", x.night(), 2);
        Check.due("lay down", x.man(0, 5), 2);
        Check.due("steps", x.man(0, 3), 2);
        Check.due("stuff", x.task(0, 2), 7);
        x = Check.house(text);
        x.work(0, 0);
        Check.due("once", x.night(), 1);
        x = Check.house(text);
        x.work(0, 0);
        x.work(0, 0);
        Check.due("not at all", x.night(), 0);
        Check.due("at once", x.man(0, 5), 0);
        // Another undoes it a minute later: who lay down stays down.
        x = Check.house("room a;task t a 9;step t 1 1 1 0;step t 2 0 0 0 undoes 0;man m a left t 0;man n a left t 1;night 9;");
        x.night();
        Check.due("down at 1", x.man(0, 5), 1);
        Check.due("once in the night", x.man(0, 3), 1);
        Check.due("undone", x.step(0, 0, 0), 0);
        Check.due("left nothing", x.man(0, 1), -2);
    }

    private static void stuffRunsOut() {
        Check.says("or has no STUFF left");
        for (int stuff = 0; stuff <= 3; stuff++) {
            SleepWork x = Check.house("room a;task t a " + stuff + ";step t 2 9 1 5;man m a left t 0;night 6;");
            Check.due("steps of stuff " + stuff, x.night(), stuff);
            Check.due("lay down", x.man(0, 5), stuff < 3 ? 2 * stuff : -2);
            Check.due("none left", x.task(0, 2), 0);
            Check.due("he has left it", x.man(0, 1), 0);
        }
        SleepWork x = Check.house("room a;task t a 1;task u a 9;step t 2 9 1 0;step u 1 9 1 0;man m a left t 0;man n a left t 0;man k a left u 0;night 4;");
        Check.due("one for the first, none for the other, that of another task", x.night(), 1 + 4);
        Check.due("the other lay down", x.man(1, 5), 0);
        Check.due("the first", x.man(0, 5), 2);
    }

    private static void toolThere() {
        Check.says("or its TOOL is not there");
        Check.says("A TOOL is there if it lies in that ROOM, or the MAN has it.");
        String text = "room a;room b;door a b 1;tool o a;task t b 9;step t 1 9 1 0 with o;man m a left t 0;man n b;night 4;";
        SleepWork x = Check.house(text);
        Check.due("at home, not there", x.gain(), 0);
        x.lay(0, 1);
        Check.due("there", x.gain(), 3);
        x.give(0, 0);
        Check.due("he has it", x.gain(), 3);
        x.give(0, 1);
        Check.due("another has it, and is there", x.gain(), 0);
        x.night();
        Check.due("lay down when he came", x.man(0, 5), 1);
        Check.due("no stuff is used", x.task(0, 2), 9);
        Check.due("he has left it still", x.man(0, 1), 0);
        x = Check.house(text + "step t 1 9 2 0;law m=if times<1 then 1 else 0;");
        Check.due("only that of the step counts", x.gain(), 2);
        x.night();
        Check.due("down behind one step", x.man(0, 5), 2);
        Check.due("which he left", x.man(0, 2), 1);
    }

    private static void toolOfAMan() {
        Check.says("(A TOOL that a MAN has is with him alone.)");
        String text = "room a;tool o a;task t a 99;step t 3 99 1 0 with o;man m a left t 0;man n a left t 0;night 9;";
        SleepWork x = Check.house(text);
        Check.due("the first again and again", x.strokes(0, 9) * 10 + x.strokes(1, 9), 30);
        x.give(0, 1);
        Check.due("who has it", x.strokes(0, 9) * 10 + x.strokes(1, 9), 3);
        x.night();
        Check.due("the other lies down, he does not wait", x.man(0, 5), 0);
        Check.due("it stays with him", x.tool(0), 101);
        x.lay(0, 0);
        Check.due("it lies there again", x.strokes(0, 9) * 10 + x.strokes(1, 9), 30);
    }

    private static void waits() {
        Check.says("He WAITS a minute, then looks again: if the TOOL is in use.");
        String text = "room a;tool o a;task t a 99;step t 3 99 1 0 with o;step t 1 99 1 0;man m a left t 0;man n a left t 0;law m=times;night ";
        SleepWork x = Check.house(text + "9;");
        // m has it till 3, then does the other step; n waits from 0 on and has it from 3 on.
        Check.due("till 3", x.strokes(0, 3), 1);
        Check.due("not over at 5", x.strokes(1, 5), 0);
        Check.due("over at 6", x.strokes(1, 6), 1);
        Check.due("again at 9", x.strokes(1, 9), 2);
        x.night();
        Check.due("waiting is no lying down", x.man(1, 5), -2);
        // The one with the least number begins first, also if he waited less long.
        x = Check.house("room a;room b;door a b 2;tool o b;task t b 99;step t 3 99 1 0 with o;man m a left t 0;man n b left t 0;night 9;");
        Check.due("n first, then m, who came at 2", x.strokes(1, 3) * 10 + x.strokes(0, 6), 11);
        Check.due("m again", x.strokes(1, 9) * 10 + x.strokes(0, 9), 12);
        // While he waits the stuff runs out.
        x = Check.house("room a;tool o a;task t a 2;step t 3 99 1 0 with o;step t 2 99 1 0;man m a left t 0;man n a left t 0;man k a left t 1;night 9;");
        x.night();
        Check.due("the third takes the last at 0, he looks again at 1", x.man(1, 5), 1);
        // While he waits the task is ended.
        x = Check.house("room a;tool o a;task t a 9;step t 5 0 1 0 with o;step t 2 1 1 0;man m a left t 0;man n a left t 0;man k a left t 1;night 9;");
        x.night();
        Check.due("ended at 2", x.man(1, 5), 2);
        Check.due("left nothing", x.man(1, 1), -2);
        Check.due("who was at it goes on till it is over", x.man(0, 5), 5);
        Check.due("one of step 0", x.step(0, 0, 0), 1);
    }

    private static void waitsTillTheEnd() {
        Check.says("the TOOL is in use till it is over");
        SleepWork x = Check.house("room a;tool o a;task t a 99;step t 9 99 1 0 with o;man m a left t 0;man n a left t 0;night 9;");
        Check.due("night", x.night(), 1);
        Check.due("all the night in use: one stuff", x.task(0, 2), 98);
        x = Check.house("room a;tool o a;task t a 99;step t 10 99 1 0 with o;man m a left t 0;man n a left t 0;night 9;");
        Check.due("night", x.night(), 0);
        Check.due("not over", x.task(0, 2), 98);
        Check.due("the next night it is free", x.gain(), 0);
        x.leave(0, -1, -1);
        x.night();
        Check.due("the other has it", x.task(0, 2), 97);
        // In two tasks of one room it is one tool; two tools do not hinder one another.
        String two = "room a;tool o a;tool p a;task t a 99;task u a 99;step t 3 99 1 0 with o;step u 3 99 1 0 with ";
        x = Check.house(two + "o;man m a left t 0;man n a left u 0;night 3;");
        Check.due("one tool", x.gain(), 1);
        x = Check.house(two + "p;man m a left t 0;man n a left u 0;night 3;");
        Check.due("two tools", x.gain(), 2);
    }

    private static void takesItsMinutes() {
        Check.says("Else it takes its MINUTES");
        for (int minutes : new int[] {1, 2, 119, 120}) {
            SleepWork x = Check.house("room a;task t a 99;step t " + minutes + " 99 1 0;man m a left t 0;night 240;");
            Check.due("not over", x.strokes(0, minutes - 1), 0);
            Check.due("over", x.strokes(0, minutes), 1);
            Check.due("over twice", x.strokes(0, 2 * minutes), 2);
            Check.due("night", x.gain(), Math.min(99, 240 / minutes));
        }
    }

    private static void stuffAtOnce() {
        Check.says("STUFF is one less at once");
        // The second one looks at it in the same minute, by his law: 8 less 8.
        SleepWork x = Check.house("room a;task t a 9;step t 5 9 1 0;step t 5 9 2 0;man m a left t 0;man n a left t 0;law n=stuff-8;law m=9-stuff;night 5;");
        Check.due("both do step 0", x.gain(), 2);
        x.work(0, 0);
        Check.due("stuff 8 and 7", x.gain(), 2 + 1);
    }

    private static void undoesIfDone() {
        Check.says("when it is over, the STEP is done once more, and that which it undoes once less (if it was done at all)");
        String text = "room a;task t a 99;step t 1 9 5 0;step t 1 9 0 0 undoes 0;man m a left t 1;night ";
        for (int done = 0; done <= 3; done++) {
            SleepWork x = Check.house(text + "2;");
            for (int i = 0; i < done; i++) {
                x.work(0, 0);
            }
            Check.due("gain of " + done, x.night(), -5 * Math.min(2, done));
            Check.due("done", x.step(0, 0, 0), Math.max(0, done - 2));
            Check.due("and it is done itself", x.step(0, 1, 0), 2);
        }
        // Each step of the second task that can be undone, by night and by day.
        for (int step = 0; step < 5; step++) {
            SleepWork x = Check.house("room a;task s a 9;" + Check.many("step s 1 9 0 0;", 6) + "task t a 99;" + Check.many("step t 1 9 1 0;", 5)
                + "step t 1 9 0 0 undoes " + step + ";man m a left t 5;night 1;");
            for (int i = 0; i < 6; i++) {
                x.work(0, i);
                x.work(1, i);
                x.work(1, Math.min(i, 4));
                x.work(1, Math.min(i, 4));
            }
            int[] ahead = new int[12];
            for (int i = 0; i < 12; i++) {
                ahead[i] = x.step(i / 6, i % 6, 0);
            }
            x.night();
            x.work(1, 5);
            for (int i = 0; i < 12; i++) {
                Check.due("undoes " + step + " alone", x.step(i / 6, i % 6, 0), ahead[i] + (i == 11 ? 2 : i == 6 + step ? -2 : 0));
            }
        }
    }

    private static void notOver() {
        Check.says("What is not over when the NIGHT is, is not done (STUFF is gone).");
        for (int night = 4; night <= 6; night++) {
            SleepWork x = Check.house("room a;task t a 99;step t 5 9 1 0;man m a left t 0;night " + night + ";");
            Check.due("night " + night, x.night(), night < 5 ? 0 : 1);
            Check.due("stuff", x.task(0, 2), night < 6 ? 98 : 97);
            Check.due("steps", x.man(0, 3), night < 5 ? 0 : 1);
            Check.due("next night it begins anew", x.gain(), night < 5 ? 0 : 1);
        }
    }

    private static void orderOfAMinute() {
        Check.says("first all STEPS that are over in it, MAN by MAN, then all MEN who are there and do nothing begin, MAN by MAN");
        String undo = "room a;task t a 99;step t 1 9 5 0;step t 1 9 0 0 undoes 0;man m a left t ";
        Check.due("done, then undone", Check.house(undo + "0;man n a left t 1;night 1;").gain(), 0);
        Check.due("undone, then done", Check.house(undo + "1;man n a left t 0;night 1;").gain(), 5);
        // n's step is over at 2; m, who is free at 2 as well, begins behind that: done is 1 for him.
        SleepWork x = Check.house("room a;task t a 99;step t 2 9 1 0;step t 2 9 10 0;man m a left t 0;man n a left t 0;"
            + "law m=done/2;law n=0;night 4;");
        Check.due("two are done when m begins", x.gain(), 1 + 1 + 10 + 1);
        x = Check.house("room a;task t a 3;step t 1 9 1 0;step t 1 9 10 0;man m a left t 1;man n a left t 0;night 9;");
        Check.due("m, n, and m has the last", x.gain(), 10 + 1 + 10);
    }

    private static void lastMinute() {
        Check.says("(at minute NIGHT STEPS that are over then are done, and none begins)");
        SleepWork x = Check.house("room a;task t a 2;step t 1 2 1 0;man m a left t 0;night 2;");
        Check.due("two", x.night(), 2);
        Check.due("at 2 he does not lie down any more", x.man(0, 5), -2);
        Check.due("nor see that it is ended", x.man(0, 1), 0);
        x = Check.house("room a;task t a 2;step t 1 2 1 0;man m a left t 0;night 3;");
        Check.due("two", x.night(), 2);
        Check.due("at 2 he does", x.man(0, 5), 2);
        Check.due("and has left nothing", x.man(0, 1), -2);
        x = Check.house("room a;room b;door a b 1;tool o a;task t b 2;step t 1 2 1 0 with o;man m a left t 0;night 1;");
        x.night();
        Check.due("there at minute NIGHT: he does not look", x.man(0, 5), -2);
        x = Check.house("room a;task t a 9;step t 1 9 1 0;man m a left t 0;night 1;");
        Check.due("the shortest night", x.night(), 1);
        Check.due("stuff", x.task(0, 2), 8);
        x = Check.house("room a;task t a 9;step t 2 9 1 0;man m a left t 0;night 1;");
        Check.due("the shortest night", x.night(), 0);
        Check.due("stuff", x.task(0, 2), 8);
    }

    private static void leftBehindANight() {
        Check.says("Behind a NIGHT each has LEFT the STEP that he did last in it (what he LEFT, if he did none); "
            + "who LEFT nothing, or lay down because the TASK was ENDED: nothing. TOOLS stay where they are.");
        String text = "room a;room b;tool o b;task t a 9;step t 2 9 1 0;step t 3 9 1 0;step t 9 9 1 0;man m a left t 0;man n a;law m=times+1;night ";
        SleepWork x = Check.house(text + "2;");
        x.night();
        Check.due("none was over", x.man(0, 2), 0);
        x = Check.house(text + "3;");
        x.night();
        Check.due("step 1 was over", x.man(0, 2), 1);
        x = Check.house(text + "11;");
        x.night();
        Check.due("step 2 was not", x.man(0, 2), 1);
        x = Check.house(text + "12;");
        x.night();
        Check.due("step 2 was", x.man(0, 2), 2);
        Check.due("who left nothing", x.man(1, 1) + x.man(1, 2), -4);
        Check.due("the tool", x.tool(0), 1);
        x.give(0, 1);
        x.night();
        Check.due("the tool", x.tool(0), 101);
        // Lain down for want of stuff or of a tool: what he did last.
        x = Check.house("room a;room b;tool o b;task t a 2;step t 1 9 1 0;step t 1 9 1 0;step t 1 9 1 0 with o;man m a left t 0;law m=times+1;night 9;");
        x.night();
        Check.due("down at 1 for want of the tool", x.man(0, 5), 1);
        Check.due("left", x.man(0, 2), 1);
        x.lay(0, 0);
        x.night();
        Check.due("down at 1 for want of stuff", x.man(0, 5), 1);
        Check.due("left", x.man(0, 2), 1);
        x.leave(0, 0, 2);
        x.night();
        Check.due("down at 0", x.man(0, 5), 0);
        Check.due("left", x.man(0, 2), 2);
        // That he saw the end of a task one night is nothing to the next one.
        x = Check.house("room a;task t a 9;task u a 9;step t 1 1 1 0;step u 1 9 1 0;man m a left t 0;night 3;");
        x.night();
        Check.due("ended", x.man(0, 1), -2);
        x.leave(0, 1, 0);
        x.night();
        Check.due("not ended", x.man(0, 1), 1);
        x.leave(0, 0, 0);
        Check.due("ended, as it would be", x.gain(), 0);
        x.leave(0, 1, 0);
        x.night();
        Check.due("not ended", x.man(0, 1), 1);
        // Ended and without stuff: ended comes first.
        x = Check.house("room a;task t a 1;step t 1 1 1 0;man m a left t 0;night 9;");
        x.night();
        Check.due("nothing", x.man(0, 1), -2);
        x = Check.house("room a;room b;tool o b;task t a 1;step t 1 0 1 0 with o;man m a left t 0;night 9;");
        x.night();
        Check.due("ended and without its tool: nothing", x.man(0, 1), -2);
    }

    private static void longestNight() {
        Check.says("NIGHT: 1 .. 600 minutes");
        SleepWork x = Check.house("room a;tool o a;task t a 999;step t 1 99 1 0 with o;step t 1 1 0 0;"
            + Check.many("man # a left t 0;", 6) + "night 600;");
        Check.due("599", x.strokes(0, 599), 599);
        Check.due("600", x.strokes(0, 600), 600);
        Check.due("601", x.strokes(0, 601), -1);
        Check.due("the last man waits all night", x.strokes(5, 600), 0);
        Check.due("gain", x.night(), 99);
        Check.due("done", x.step(0, 0, 0), 600);
        Check.due("stuff", x.task(0, 2), 399);
        x.night();
        Check.due("done", x.step(0, 0, 0), 999);
        for (int man = 0; man < 6; man++) {
            // The first man takes the last of it at 398, so the others find none in that minute.
            Check.due("all lie down when it has run out", x.man(man, 5), man == 0 ? 399 : 398);
        }
    }
}
