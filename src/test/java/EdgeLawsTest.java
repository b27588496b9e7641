/** Edges of laws, sentence by sentence: part II of the terms. */
public final class EdgeLawsTest {
    // No number of a text is so large, so it is put together.
    private static final String MAX = "(9999*9999*21+9999*4790+8416)";
    private static final String MIN = "(0-" + MAX + "-1)";

    private EdgeLawsTest() { }

    public static void main(String[] args) {
        numbersPutTogether();
        firstIfThatHolds();
        lessThan();
        wraps();
        dividing();
        dividedByNought();
        notLookedAt();
        fromLeftToRight();
        last();
        done();
        steps();
        minute();
        stuff();
        times();
        deepest();
        longest();
        Check.end();
    }

    /** Which of six steps is done in a night of one minute, 2 having been left. */
    private static int told(String law) {
        SleepWork x = Check.house("room a;task t a 50;" + Check.many("step t 1 99 1 1;", 6) + "man m a left t 2;law m=" + law + ";night 1;");
        x.night();
        for (int step = 0; step < 6; step++) {
            if (x.step(0, step, 0) == 1) {
                return step;
            }
        }
        return -1;
    }

    private static void holds(String left, String right, boolean due) {
        Check.due(left + " < " + right, told("if " + left + "<" + right + " then 4 else 3"), due ? 4 : 3);
    }

    private static void numbersPutTogether() {
        Check.says("ints of 32 bits that wrap");
        Check.due("most", 9999 * 9999 * 21 + 9999 * 4790 + 8416, Integer.MAX_VALUE);
        holds(MAX, MAX, false);
        holds(MAX + "-1", MAX, true);
        holds("0", MAX, true);
        holds(MIN, MAX, true);
        holds(MAX, MIN, false);
        holds(MIN, "0-" + MAX, true);
    }

    private static void firstIfThatHolds() {
        Check.says("the E of the first if that holds (one less than the other), else the last one");
        Check.due("the first", told("if 0<1 then 5 else if 0<1 then 4 else 3"), 5);
        Check.due("the second", told("if 1<1 then 5 else if 0<1 then 4 else 3"), 4);
        Check.due("the last", told("if 1<1 then 5 else if 1<0 then 4 else 3"), 3);
        Check.due("four", told("if 1<1 then 5 else if 1<1 then 5 else if 1<1 then 5 else if 0<1 then 4 else 3"), 4);
        Check.due("four that do not", told("if 1<1 then 5 else if 1<1 then 5 else if 1<1 then 5 else if 1<1 then 5 else 4"), 4);
        Check.due("none", told("4"), 4);
    }

    private static void lessThan() {
        Check.says("(one less than the other)");
        holds("1", "2", true);
        holds("2", "2", false);
        holds("3", "2", false);
        holds("0-1", "0", true);
        holds("0", "0-1", false);
        holds("9998", "9999", true);
        holds("9999", "9999", false);
    }

    private static void wraps() {
        Check.says("ints of 32 bits that wrap");
        holds(MAX + "+1", "0", true);
        holds(MAX + "+0", "0", false);
        holds("0", MIN + "-1", true);
        holds("0", MIN + "-0", false);
        holds(MAX + "+1", MIN + "+1", true);
        holds(MAX + "*2", "0-1", true);
        holds(MAX + "*2", "0-2", false);
        holds("0-3", MAX + "*2", true);
        // 65536 * 65536 is 0; 9999 * 9999 * 43 is 4172747 behind the wrap.
        holds("0-1", "256*256*256*256", true);
        holds("256*256*256*256", "1", true);
        Check.due("9999*9999*43", told("9999*9999*43/1000/1000"), 4);
        holds(MIN + "*(0-1)", MIN + "+1", true);
        holds("0-" + MIN, "0", true);
        // Less by more than an int holds is still less.
        holds(MIN, "1", true);
        holds(MAX, "0-1", false);
        holds("0-2", MAX, true);
    }

    private static void dividing() {
        Check.says("/ rounded towards 0");
        Check.due("7/2", told("7/2"), 3);
        Check.due("8/2", told("8/2"), 4);
        Check.due("1/2", told("1/2"), 0);
        Check.due("(0-7)/2+5", told("(0-7)/2+5"), 2);
        Check.due("7/(0-2)+5", told("7/(0-2)+5"), 2);
        Check.due("(0-7)/(0-2)", told("(0-7)/(0-2)"), 3);
        Check.due("(0-1)/2+4", told("(0-1)/2+4"), 4);
        holds(MIN + "/(0-1)", MIN + "+1", true);
        Check.due("the least by -1 wraps", told("if " + MIN + "/(0-1)<0 then 4 else 3"), 4);
        holds(MAX + "/(0-1)", "0-" + MAX + "+1", true);
        Check.due("0/5", told("0/5+1"), 1);
    }

    private static void dividedByNought() {
        Check.says("a LAW in which something that is looked at is divided by 0 is last");
        Check.due("1/0", told("1/0"), 2);
        Check.due("0/0", told("0/0"), 2);
        Check.due("1/1", told("1/1"), 1);
        Check.due("5+1/0", told("5+1/0"), 2);
        Check.due("1/0+5", told("1/0+5"), 2);
        Check.due("0*(1/0)", told("0*(1/0)"), 2);
        Check.due("5/(1-1)", told("5/(1-1)"), 2);
        Check.due("5/(256*256*256*256)", told("5/(256*256*256*256)"), 2);
        Check.due("5/minute at minute 0", told("5/minute"), 2);
        Check.due("in what is compared", told("if 1/0<5 then 3 else 4"), 2);
        Check.due("in the other that is compared", told("if 0<5/0 then 3 else 4"), 2);
        Check.due("in what holds", told("if 0<1 then 5/0 else 4"), 2);
        Check.due("in the last one", told("if 1<0 then 5 else 4/0"), 2);
        Check.due("in the second if", told("if 1<0 then 5 else if 1/0<1 then 4 else 3"), 2);
    }

    private static void notLookedAt() {
        Check.says("something that is looked at");
        Check.due("what does not hold", told("if 1<0 then 1/0 else 3"), 3);
        Check.due("behind what holds", told("if 0<1 then 4 else 1/0"), 4);
        Check.due("an if behind what holds", told("if 0<1 then 4 else if 1/0<1 then 3 else 1/0"), 4);
        Check.due("behind two", told("if 1<0 then 1/0 else if 0<1 then 5 else if 1/0<0 then 1 else 0"), 5);
    }

    private static void fromLeftToRight() {
        Check.says("E: PART {('+' | '-') PART}.");
        Check.due("9-3-2", told("9-3-2"), 4);
        Check.due("9-(3-2)-4", told("9-(3-2)-4"), 4);
        Check.due("1+2-3+4", told("1+2-3+4"), 4);
        Check.due("1-2+3", told("1-2+3"), 2);
        Check.says("PART: UNIT {('*' | '/') UNIT}.");
        Check.due("16/4/2", told("16/4/2"), 2);
        Check.due("16/(4/2)-5", told("16/(4/2)-5"), 3);
        Check.due("9/5*2", told("9/5*2"), 2);
        Check.due("9*2/5", told("9*2/5"), 3);
        Check.due("1+2*2", told("1+2*2"), 5);
        Check.due("(1+1)*2", told("(1+1)*2"), 4);
        Check.due("9-2*3", told("9-2*3"), 3);
        Check.due("2*3-1", told("2*3-1"), 5);
        Check.due("9-8/2-1", told("9-8/2-1"), 4);
    }

    private static void last() {
        Check.says("last: the STEP he did last (in the beginning: LEFT; a STEP that he began and that was over)");
        String six = "room a;task t a 50;" + Check.many("step t 1 99 1 1;", 6) + "man m a left t 2;law m=last+1;night ";
        for (int night = 1; night <= 5; night++) {
            SleepWork x = Check.house(six + night + ";");
            x.night();
            Check.due("last", x.man(0, 2), Math.min(5, 2 + night));
        }
        // What was not over is not what he did last: the next night begins with 1 again.
        SleepWork x = Check.house("room a;task t a 50;step t 1 99 1 1;step t 5 99 1 1;step t 1 99 1 1;man m a left t 0;law m=last+1;night 4;");
        x.night();
        x.night();
        Check.due("left", x.man(0, 2), 0);
        Check.due("stuff of two", x.task(0, 2), 48);
        Check.due("none", x.man(0, 4), 0);
    }

    private static void done() {
        Check.says("done: how often that one is done");
        String text = "room a;task t a 50;step t 1 99 1 0;step t 1 99 10 0;man m a left t 0;law m=if done<2 then last else 1-last;night ";
        // 0 twice; then 1, as 0 is done twice; 1 again; then 0, as 1 is done twice; then 1, as 0 is done thrice.
        int[] due = {1, 2, 12, 22, 23, 33};
        for (int night = 1; night <= due.length; night++) {
            Check.due("night " + night, Check.house(text + night + ";").gain(), due[night - 1]);
        }
        SleepWork x = Check.house(text + "1;");
        x.work(0, 0);
        x.work(0, 0);
        Check.due("by day too", x.gain(), 10);
    }

    private static void steps() {
        Check.says("steps: how many the TASK has");
        for (int n = 1; n <= 6; n++) {
            SleepWork x = Check.house("room a;task u a 9;" + Check.many("step u 1 9 0 0;", 7 - n) + "task t a 9;"
                + Check.many("step t 1 99 1 1;", n) + "man m a left t 0;law m=steps-1;night 1;");
            x.night();
            Check.due("steps", x.man(0, 2), n - 1);
            x.undo();
            x.leave(0, 0, 0);
            x.night();
            Check.due("of the other task", x.man(0, 2), 6 - n);
        }
    }

    private static void minute() {
        Check.says("minute: now");
        String text = "room a;room b;door a b 3;task t b 50;step t 1 99 1 0;step t 1 99 10 0;man m a left t 0;law m=if minute<";
        Check.due("minute 3 is not less than 3", Check.house(text + "3 then 1 else 0;night 5;").gain(), 2);
        Check.due("minute 3 is less than 4", Check.house(text + "4 then 1 else 0;night 5;").gain(), 11);
        Check.due("minute 599", Check.house(text + "599 then 0 else 1;night 600;step t 99 99 0 0;").gain(), 50);
        SleepWork x = Check.house("room a;task t a 999;step t 1 99 1 0;step t 1 99 10 0;man m a left t 0;law m=minute-598;night 600;");
        x.night();
        Check.due("once at 599", x.step(0, 1, 0), 1);
        Check.due("from 0 to 598", x.step(0, 0, 0), 599);
    }

    private static void stuff() {
        Check.says("stuff: what is left");
        for (int n = 1; n <= 7; n++) {
            SleepWork x = Check.house("room a;task t a " + n + ";" + Check.many("step t 1 99 1 1;", 6) + "man m a left t 0;law m=stuff;night 1;");
            x.night();
            Check.due("stuff", x.man(0, 2), Math.min(5, n));
        }
    }

    private static void times() {
        Check.says("times: how many STEPS he did this NIGHT");
        String text = "room a;task t a 50;" + Check.many("step t 1 99 1 1;", 6) + "man m a left t 4;man n a left t 4;law m=times;night ";
        for (int night = 1; night <= 6; night++) {
            SleepWork x = Check.house(text + night + ";");
            x.night();
            Check.due("times", x.man(0, 2), night - 1);
            x.night();
            Check.due("anew each night", x.man(0, 2), night - 1);
            Check.due("in all", x.man(0, 4), 2 * night);
            Check.due("each his own", x.man(1, 2), 4);
        }
    }

    private static void deepest() {
        Check.says("a 7th ( within one another (at it)");
        // At each depth a sum and a product wait for their last part.
        String deep = "(0+1*".repeat(6) + "1" + ")".repeat(6);
        Check.due("deep", told("1+1*" + deep), 2);
        Check.due("deep, and what it is compared with", told("if 0+1*" + deep + "<1+1*" + deep + " then 4 else 3"), 4);
        Check.due("deep divisions", told("5/(5/(5/(5/(5/(5/(5))))))"), 5);
        Check.due("deep division by 0", told("5/(5/(5/(5/(5/(5/(0))))))"), 2);
    }

    private static void longest() {
        Check.says("a 401st TOKEN");
        // Of the law four tokens stand about the sum: 42 ahead of it, and the sign ; behind.
        String head = "room a;task t a 9;step t 1 9 1 0;step t 1 9 10 0;step t 1 9 0 0;man m a left t 0;night 1;law m=";
        int free = 400 - (3 + 5 + 7 + 7 + 7 + 7 + 3 + 4);
        String ones = "1" + "-1+1".repeat(free / 4) + ";";
        Check.due("a long law", Check.house(head + ones).gain(), 10);
        String full = "1" + "+0".repeat((free - 1) / 2) + ";";
        Check.due("as long as can be", Check.house(head + full).gain(), 10);
        Check.due("odd or even", (free - 1) % 2, 0);
        Check.fault(head + "1" + "+0".repeat((free + 1) / 2) + ";", 2, head.length() + free + 1);
        String product = "1" + "*1".repeat((free - 1) / 2) + ";";
        Check.due("as long as can be", Check.house(head + product).gain(), 10);
    }
}
