import java.util.List;

/** Edges of evenings and mornings, sentence by sentence: parts III and IV of the terms, promises 18 to 30. */
public final class EdgeEveningsTest {
    private static final int FAR = 1000000000;
    private static final int MIN = Integer.MIN_VALUE;
    private static final int MAX = Integer.MAX_VALUE;
    private static final String SMALL = "room a;room b;door a b 10;tool saw b;task wall b 5;step wall 20 2 7 3 with saw;"
        + "step wall 30 1 5 1 undoes 0;man tom a left wall 0;man ann b;night 100;";

    private EdgeEveningsTest() { }

    public static void main(String[] args) {
        nothingHappens();
        gainBelowNought();
        bestOfAlike();
        bestAtTheEnd();
        allElseAsItIs();
        bestRefused();
        bestForTwoOfAlike();
        bestForTwoRefused();
        hire();
        hideOfAlike();
        hideAtTheEnd();
        hideRefused();
        barsOfAlike();
        barsForSeveralMen();
        barsForSixMen();
        barsAllAndNone();
        barsRefused();
        where();
        strokes();
        tell();
        known();
        fits();
        fitsFromNow();
        suspects();
        pairs();
        pairsTogether();
        Check.end();
    }

    private static void nothingHappens() {
        Check.says("What would be if this evening (nothing happens)");
        SleepWork x = Check.house(SMALL);
        x.tell(0, 0, 4);
        x.night();
        x.leave(1, 0, 1);
        List<Integer> ahead = Check.portrait(x);
        x.gain();
        x.best(0, 0);
        x.best(1, 1);
        x.bestOfTwo(0, 1, 2);
        x.hire(0);
        x.hide(0, 1);
        x.bars(0);
        x.where(0, 100);
        x.strokes(0, 100);
        x.fits(0, 1, -1);
        x.suspects(1);
        x.pairs(0, 1, 1);
        Check.due("as it was: " + ahead, ahead.equals(Check.portrait(x)), true);
    }

    private static void gainBelowNought() {
        Check.says("GAIN of a NIGHT: WORTH of all TASKS behind it, less now.");
        SleepWork x = Check.house("room a;tool o a;task t a 1;step t 1 0 0 1;step t 1 1 0 0;task u a 5;step u 1 2 3 0;man m a left t 0;man n a;night 1;");
        x.work(1, 0);
        x.work(1, 0);
        Check.due("worth now", x.count(8), 6);
        Check.due("gain may be -1", x.gain(), -1);
        Check.due("best may be -1", x.best(1, 0), -1);
        Check.due("for nothing", x.best(1, 1), -2);
        Check.due("hide may be -1", x.hide(0, 0), -1);
        Check.due("bars may be -1", x.bars(0), -1);
        Check.due("night may be -1", x.night(), -1);
        Check.due("worth", x.count(8), 5);
        x = Check.house("room a;task t a 999;step t 1 0 0 99;step t 1 1 0 0;man m a left t 0;man n a left t 0;night 600;");
        Check.due("the most that is spoilt of a task", x.gain(), -999 * 99);
    }

    private static void bestOfAlike() {
        Check.says("that with the most GAIN; of alike ones nothing ahead of all, then by TASKS, then STEPS");
        String[] gains = {"0 0 0 0", "1 1 1 1", "0 1 1 1", "0 0 1 1", "0 0 0 1", "1 2 2 1", "1 2 2 3"};
        int[] due = {-2, 0, 1, 10, 11, 1, 11};
        int[] most = {0, 1, 1, 1, 1, 2, 3};
        for (int i = 0; i < gains.length; i++) {
            String[] g = gains[i].split(" ");
            SleepWork x = Check.house("room a;task t a 9;task u a 9;step t 1 9 " + g[0] + " 0;step t 1 9 " + g[1] + " 0;step u 1 9 "
                + g[2] + " 0;step u 1 9 " + g[3] + " 0;man m a left u 1;man n a;night 1;");
            x.leave(0, 1, 1);
            Check.due("best of " + gains[i], x.best(0, 1), due[i]);
            Check.due("gain of " + gains[i], x.best(0, 0), most[i]);
            Check.due("hire of " + gains[i], x.hire(0), most[i]);
        }
        SleepWork x = Check.house("room a;task t a 9;step t 1 0 0 1;step t 1 1 0 0;man m a left t 0;night 1;");
        Check.due("nothing is better than to spoil", x.best(0, 1), -2);
        Check.due("gain", x.best(0, 0), 0);
        x = Check.house("room a;man m a;");
        Check.due("without tasks: nothing", x.best(0, 1), -2);
        Check.due("gain", x.best(0, 0), 0);
    }

    private static void bestAtTheEnd() {
        Check.says("what 0 GAIN, 1 10 * the TASK + the STEP (-2: nothing)");
        for (int task = 0; task < 6; task++) {
            for (int step = 0; step < 6; step += 5) {
                StringBuilder text = new StringBuilder("room a;");
                for (int t = 0; t < 6; t++) {
                    text.append("task ").append((char) ('c' + t)).append(" a 9;");
                    for (int s = 0; s < 6; s++) {
                        text.append("step ").append((char) ('c' + t)).append(t == task && s == step ? " 1 1 9 0;" : " 1 1 8 0;");
                    }
                }
                SleepWork x = Check.house(text + "man m a;man n a;night 1;");
                Check.due("best", x.best(1, 1), 10 * task + step);
                Check.due("gain", x.best(1, 0), 9);
                twoDue(x, 0, 1, 17, 0, Math.max(1, 10 * task + step));
            }
        }
    }

    /** What is best for one hangs on what the others left, on stuff, tools and doors as they are. */
    private static void allElseAsItIs() {
        Check.says("BEST for a MAN: of all he may LEAVE (nothing; else a TASK, a STEP), all else as it is");
        SleepWork x = Check.house("room a;room b;door a b 1;tool o b;task t b 3;step t 1 2 9 9 with o;step t 1 2 5 5;man m a;man n a;night 3;");
        Check.due("twice 0", x.best(0, 1) * 100 + x.best(0, 0), 18);
        x.leave(1, 0, 0);
        Check.due("n does 0 once, then m has taken the last stuff", x.best(0, 1) * 100 + x.best(0, 0), 100 + 9 + 10);
        x.lay(0, 0);
        Check.due("the tool is not there for either", x.best(0, 1) * 100 + x.best(0, 0), 100 + 10);
        x.give(0, 0);
        Check.due("m has it", x.best(0, 1) * 100 + x.best(0, 0), 18);
        x.work(0, 0);
        Check.due("0 was done by day", x.best(0, 1) * 100 + x.best(0, 0), 100 + 10);
        x.bar(0, true);
        Check.due("no way", x.best(0, 1) * 100 + x.best(0, 0), -200);
        x.bar(0, false);
        x.work(0, 1);
        x.work(0, 1);
        Check.due("no stuff", x.best(0, 1) * 100 + x.best(0, 0), -200);
        Check.due("what he left does not count", x.leave(0, 0, 1) ? x.best(0, 1) : 0, -2);
    }

    private static void bestRefused() {
        Check.says("NONE: no such ones (GAIN may be -1)");
        SleepWork x = Check.house(SMALL);
        for (int man : new int[] {-1, 2, 6, FAR, MIN, MAX}) {
            Check.due("nobody " + man, x.best(man, 0), -1);
            Check.due("nobody " + man, x.best(man, 1), -1);
        }
        for (int what : new int[] {-1, 2, 3, FAR, MIN, MAX}) {
            Check.due("what " + what, x.best(0, what), -1);
        }
        Check.due("gain", x.best(1, 0), 11);
        Check.due("best", x.best(1, 1), 1);
        Check.due("nobody in a new one", new SleepWork().best(0, 0), -1);
    }

    private static void bestForTwoOfAlike() {
        Check.says("BEST for two: likewise, both of them, the first by what the first one leaves, then the other one.");
        String men = "man m a left t 0;man n a left t 0;man k a;night 1;";
        // Each of two steps is needed once: 0 and 1, or 1 and 0.
        SleepWork x = Check.house("room a;task t a 9;step t 1 1 1 1;step t 1 1 1 1;" + men);
        twoDue(x, 0, 1, 2, 0, 1);
        twoDue(x, 1, 0, 2, 0, 1);
        // One is enough, another spoils: the first leaves nothing.
        x = Check.house("room a;task t a 9;step t 1 1 1 1;step t 1 1 0 0;" + men);
        twoDue(x, 0, 1, 1, -2, 0);
        twoDue(x, 1, 0, 1, -2, 0);
        x = Check.house("room a;task t a 9;step t 1 1 0 0;" + men);
        twoDue(x, 0, 1, 0, -2, -2);
        twoDue(x, 2, 0, 0, -2, -2);
        x = Check.house("room a;task t a 9;step t 1 9 1 0;step t 1 9 1 0;" + men);
        twoDue(x, 0, 1, 2, 0, 0);
        // The third, n, does step 0 as he left it, so 0 is needed no more.
        x = Check.house("room a;task t a 9;step t 1 1 5 5;step t 1 1 1 1;" + men);
        twoDue(x, 0, 2, 6, -2, 1);
        x = Check.house("room a;man m a;man n a;");
        twoDue(x, 0, 1, 0, -2, -2);
        x = Check.house("room a;task t a 1;step t 1 0 0 1;step t 1 1 0 0;man m a left t 0;man n a;man k a;night 1;");
        twoDue(x, 1, 2, -1, -2, -2);
    }

    private static void twoDue(SleepWork x, int man, int other, int gain, int first, int second) {
        Check.due("gain", x.bestOfTwo(man, other, 0), gain);
        Check.due("the first", x.bestOfTwo(man, other, 1), first);
        Check.due("the other", x.bestOfTwo(man, other, 2), second);
    }

    private static void bestForTwoRefused() {
        Check.says("what 0 GAIN, 1 that of the first one (as best()), 2 of the other one; NONE: no such ones, one and the same.");
        SleepWork x = Check.house(SMALL);
        for (int man : new int[] {-1, 2, 6, FAR, MIN, MAX}) {
            for (int what = 0; what <= 2; what++) {
                Check.due("nobody " + man, x.bestOfTwo(man, 0, what), -1);
                Check.due("nobody " + man, x.bestOfTwo(1, man, what), -1);
                Check.due("nobody twice " + man, x.bestOfTwo(man, man, what), -1);
            }
        }
        for (int what = 0; what <= 2; what++) {
            Check.due("the same", x.bestOfTwo(0, 0, what), -1);
            Check.due("the same", x.bestOfTwo(1, 1, what), -1);
        }
        for (int what : new int[] {-1, 3, FAR, MIN, MAX}) {
            Check.due("what " + what, x.bestOfTwo(0, 1, what), -1);
        }
        twoDue(x, 0, 1, 11, 0, 1);
    }

    private static void hire() {
        Check.says("HIRE of a MAN: the GAIN if he leaves what is BEST for him, less that if he leaves nothing.");
        SleepWork x = Check.house("room a;task t a 9;step t 1 1 4 9;step t 1 1 3 9;man m a left t 0;man n a;night 1;");
        Check.due("m: 4 or nothing", x.hire(0), 4);
        Check.due("n: 3 beside the 4 of m", x.hire(1), 3);
        x.leave(0, 0, 1);
        Check.due("n: 4 beside the 3 of m", x.hire(1), 4);
        x.leave(0, -1, -1);
        x.leave(1, 0, 0);
        Check.due("m: what he left counts for nothing", x.hire(0), 3);
        Check.due("no task is worth it", Check.house("room a;task t a 9;step t 1 0 0 9;step t 1 1 0 0;man m a left t 0;").hire(0), 0);
        // n spoils 9 if m leaves nothing; m takes the last stuff away from him.
        x = Check.house("room a;task t a 1;step t 1 0 0 9;step t 1 1 0 0;man m a;man n a left t 0;night 1;");
        Check.due("m hinders n", x.hire(0), 9);
        Check.due("best", x.best(0, 0), 0);
        Check.due("best", x.best(0, 1), 1);
        Check.says("HIRE; -1000000: no such one.");
        for (int man : new int[] {-1, 2, 6, FAR, MIN, MAX}) {
            Check.due("nobody " + man, x.hire(man), -1000000);
        }
        Check.due("nobody in a new one", new SleepWork().hire(0), -1000000);
    }

    private static void hideOfAlike() {
        Check.says("that with the most GAIN; of alike ones the first ROOM, then the first MAN");
        String text = "room a;room b;room c;tool o c;task t b 9;step t 1 9 1 0 with o;man m b;man n b left t 0;man k b left t 0;night 1;";
        SleepWork x = Check.house(text);
        Check.due("gain", x.hide(0, 0), 1);
        Check.due("in b, or with n, or with k", x.hide(0, 1), 1);
        x.give(0, 1);
        Check.due("also if a man has it now", x.hide(0, 1), 1);
        x.leave(1, -1, -1);
        x.leave(2, -1, -1);
        Check.due("all alike: the first room", x.hide(0, 1), 0);
        Check.due("gain", x.hide(0, 0), 0);
        // If it lies in b, m spoils with it; n and k do not.
        x = Check.house("room a;room b;tool o a;task t b 9;step t 1 0 0 9 with o;step t 1 9 1 0 with o;man m b left t 0;man n b left t 1;man k b left t 1;night 1;");
        Check.due("the first of two men", x.hide(0, 1), 101);
        Check.due("gain", x.hide(0, 0), 1);
    }

    private static void hideAtTheEnd() {
        Check.says("HIDE of a TOOL: of all ROOMS where it may lie, and MEN who may have it");
        SleepWork x = Check.house("room a;tool n a;tool o a;task t a 99;step t 1 0 0 9 with o;step t 1 99 5 0 with o;" + Check.many("man # a left t 0;", 5)
            + "man z a left t 1;night 1;");
        Check.due("the last man", x.hide(1, 1), 105);
        Check.due("gain", x.hide(1, 0), 5);
        Check.due("the other tool", x.hide(0, 1), 0);
        Check.due("its gain", x.hide(0, 0), -9);
        x = Check.house(Check.many("room #;", 8) + "tool o c;task t j 9;step t 1 9 1 0 with o;man m j left t 0;night 1;");
        Check.due("the last room", x.hide(0, 1), 7);
        Check.due("gain", x.hide(0, 0), 1);
        x = Check.house("room a;tool o a;task t a 9;step t 1 0 0 1 with o;step t 1 1 0 0;man m a left t 0;night 3;");
        Check.due("it must be somewhere", x.hide(0, 0), -3);
        Check.due("in the only room", x.hide(0, 1), 0);
    }

    private static void hideRefused() {
        Check.says("NONE: no such ones, no ROOMS (GAIN may be -1).");
        SleepWork x = Check.house(SMALL);
        for (int tool : new int[] {-1, 1, 6, FAR, MIN, MAX}) {
            Check.due("no tool " + tool, x.hide(tool, 0), -1);
            Check.due("no tool " + tool, x.hide(tool, 1), -1);
        }
        for (int what : new int[] {-1, 2, FAR, MIN, MAX}) {
            Check.due("what " + what, x.hide(0, what), -1);
        }
        Check.due("no rooms", new SleepWork().hide(0, 0), -1);
        Check.due("no rooms", new SleepWork().hide(0, 1), -1);
        Check.due("gain", x.hide(0, 0), 8);
    }

    private static void barsOfAlike() {
        Check.says("BAR: of all sets of DOORS to be shut (the others open) that with the most GAIN; of alike ones the fewest DOORS, then the least bits.");
        String spoil = "room a;room b;room c;task t c 99;step t 1 0 0 1;step t 1 1 0 0;man m a left t 0;night 9;";
        SleepWork x = Check.house(spoil + "door a b 1;door a b 1;door b c 1;");
        Check.due("gain", x.bars(0), 0);
        Check.due("one door though two have less bits", x.bars(1), 4);
        x = Check.house(spoil + "door a b 1;door b c 1;");
        Check.due("the first of two", x.bars(1), 1);
        x = Check.house(spoil + "door a b 1;door b c 1;door a b 2;door b c 2;");
        Check.due("0 and 2, or 1 and 3", x.bars(1), 5);
        x = Check.house(spoil + "door a b 1;door b c 1;door b c 2;door a b 2;");
        Check.due("1 and 2 are less than 0 and 3", x.bars(1), 6);
        x = Check.house(spoil + "door a b 9;door b c 1;");
        Check.due("too far anyway: none", x.bars(1), 0);
        x = Check.house("room a;room b;task t b 99;step t 1 9 1 0;man m a left t 0;night 9;door a b 1 shut;door a b 2;");
        Check.due("gain as it is", x.gain(), 7);
        Check.due("the others open", x.bars(0), 8);
        Check.due("none", x.bars(1), 0);
        Check.due("nothing happens", x.count(7), 1);
    }

    /** Each man has two doors, one that lets him in a minute too soon and one just right. */
    private static void barsForSeveralMen() {
        Check.says("BAR: of all sets of DOORS to be shut (the others open) that with the most GAIN");
        for (int right = 2; right <= 9; right++) {
            String task = "1 2 9 1;step # 1 1 0 0;";
            String text = "room a;room b;room c;room d;room e;task t b 99;step t " + task.replace('#', 't') + "task u c 99;step u " + task.replace('#', 'u')
                + "task v d 99;step v " + task.replace('#', 'v') + "man m a left t 0;man n a left u 0;man k a left v 0;man l a;night " + (right + 2)
                + ";door a b " + (right - 1) + ";door a b " + right + ";door a c " + (right - 1) + ";door a c " + right + ";";
            SleepWork x = Check.house(text);
            Check.due("gain", x.bars(0), 36);
            Check.due("the soon ones of both", x.bars(1), 5);
            x = Check.house(text + "door a d " + (right - 1) + ";door a d " + right + ";");
            Check.due("gain", x.bars(0), 54);
            Check.due("the soon ones of three", x.bars(1), 21);
            x.leave(0, -1, -1);
            x.leave(3, 0, 0);
            Check.due("the last man instead of the first", x.bars(1), 21);
            x.leave(3, -1, -1);
            Check.due("of two", x.bars(1), 20);
        }
    }

    /** As many men and doors as there may be: each man's first door lets him in too soon. */
    private static void barsForSixMen() {
        Check.says("BAR: of all sets of DOORS to be shut (the others open) that with the most GAIN");
        for (int right : new int[] {2, 31, 60}) {
            StringBuilder text = new StringBuilder("room a;" + Check.many("room #;", 6) + "night " + (right + 2) + ";");
            for (char name = 'c'; name <= 'h'; name++) {
                text.append(("task t# # 9;step t# 1 2 9 1;step t# 1 1 0 0;man m# a left t# 0;door a # " + (right - 1) + ";door a # " + right + ";")
                    .replace('#', name));
            }
            SleepWork x = Check.house(text.toString());
            Check.due("gain as it is", x.gain(), 6 * 17);
            Check.due("gain", x.bars(0), 6 * 18);
            Check.due("the first door of each", x.bars(1), 1365);
            for (int man = 0; man < 6; man++) {
                x.leave(man, -1, -1);
                Check.due("gain without him", x.bars(0), 5 * 18);
                Check.due("his doors stay open", x.bars(1), 1365 & ~(1 << 2 * man));
                x.leave(man, man, 0);
            }
        }
    }

    private static void barsAllAndNone() {
        Check.says("what 0 GAIN, 1 the DOORS (bits)");
        String spoil = "room a;room b;task t b 99;step t 1 0 0 1;step t 1 1 0 0;man m a left t 0;night 9;";
        for (int doors = 0; doors <= 12; doors++) {
            SleepWork x = Check.house(spoil + Check.many("door a b 1;", doors));
            Check.due("all " + doors, x.bars(1), (1 << doors) - 1);
            Check.due("gain", x.bars(0), 0);
        }
        for (int open = 0; open < 12; open++) {
            // One door is slow enough that the need is met and nothing spoilt; the others let him in too soon.
            SleepWork x = Check.house("room a;room b;task t b 99;step t 1 2 9 1;step t 1 1 0 0;man m a left t 0;night 9;" + Check.many("door a b 1;", open)
                + "door a b 7;" + Check.many("door a b 1;", 11 - open));
            Check.due("all but " + open, x.bars(1), 4095 & ~(1 << open));
            Check.due("gain", x.bars(0), 18);
        }
        SleepWork x = Check.house("room a;task t a 9;step t 1 9 1 0;man m a left t 0;night 9;");
        Check.due("without doors: gain", x.bars(0), 9);
        Check.due("without doors: none", x.bars(1), 0);
        Check.due("a new one", new SleepWork().bars(0), 0);
        Check.due("a new one", new SleepWork().bars(1), 0);
    }

    private static void barsRefused() {
        Check.says("what 0 GAIN, 1 the DOORS (bits); NONE for others.");
        SleepWork x = Check.house(SMALL);
        for (int what : new int[] {-1, 2, FAR, MIN, MAX}) {
            Check.due("what " + what, x.bars(what), -1);
        }
        Check.due("gain", x.bars(0), 8);
    }

    private static void where() {
        Check.says("WHERE a MAN is at a minute of the NIGHT (0 .. NIGHT): in HOME till he is there (on his way: HOME), "
            + "then in the ROOM of his TASK, also when he has LAIN DOWN there.");
        for (int way : new int[] {1, 9, 10, 11}) {
            SleepWork x = Check.house("room a;room b;door a b " + way + ";task t b 9;step t 1 0 0 0;man m a left t 0;man n a;night 10;");
            for (int minute = 0; minute <= 10; minute++) {
                Check.due("way " + way + " minute " + minute, x.where(0, minute), minute < way ? 0 : 1);
                Check.due("who left nothing", x.where(1, minute), 0);
            }
            x.bar(0, true);
            Check.due("no way", x.where(0, 10), 0);
        }
        SleepWork x = Check.house("room a;room b;task t b 9;step t 1 1 0 0;man m b left t 0;night 10;");
        Check.due("at home there", x.where(0, 0), 1);
        Check.due("at home there", x.where(0, 10), 1);
        Check.says("WHERE: the ROOM; NONE: no such ones.");
        for (int odd : new int[] {-1, 11, FAR, MIN, MAX}) {
            Check.due("no minute " + odd, x.where(0, odd), -1);
            Check.due("nobody " + odd, x.where(odd == 11 ? 1 : odd, 0), -1);
        }
        Check.due("nobody in a new one", new SleepWork().where(0, 0), -1);
    }

    private static void strokes() {
        Check.says("How many STEPS a MAN would do till a minute of the NIGHT (0 .. NIGHT: all that are over then); NONE: no such ones.");
        SleepWork x = Check.house("room a;room b;door a b 2;task t b 3;step t 3 9 0 0;man m a left t 0;man n b;night 10;");
        int[] due = {0, 0, 0, 0, 0, 1, 1, 1, 2, 2, 2};
        for (int minute = 0; minute <= 10; minute++) {
            Check.due("minute " + minute, x.strokes(0, minute), due[minute]);
            Check.due("who left nothing", x.strokes(1, minute), 0);
        }
        for (int odd : new int[] {-1, 11, FAR, MIN, MAX}) {
            Check.due("no minute " + odd, x.strokes(0, odd), -1);
            Check.due("nobody " + odd, x.strokes(odd == 11 ? 2 : odd, 0), -1);
        }
        x.night();
        Check.due("the night behind does not count", x.strokes(0, 10), 0);
        Check.due("nobody in a new one", new SleepWork().strokes(0, 0), -1);
    }

    private static void tell() {
        Check.says("TOLD: how often a STEP of a TASK is done in the morning (0 .. 999); 30 at most, numbered from 0 on");
        SleepWork x = Check.house(SMALL);
        int[] times = {0, 999, 1, 998};
        for (int i = 0; i < 30; i++) {
            Check.due("tell", x.tell(0, i % 2, times[i % 4]), i);
            Check.due("told", x.count(11), i + 1);
        }
        Check.says("It is TOLD: its number; NONE, and nothing happens: 30 are there, no such ones.");
        Check.due("a 31st", x.tell(0, 0, 0), -1);
        Check.due("told", x.count(11), 30);
        Check.due("no k", x.suspects(31), -1);
        Check.due("the 30th", x.suspects(30), 0);
        Check.due("forget", x.forget(), 30);
        Check.due("from 0 on again", x.tell(0, 0, 4), 0);
        for (int odd : new int[] {-1, 1000, FAR, MIN, MAX}) {
            Check.due("times " + odd, x.tell(0, 0, odd), -1);
            Check.due("no task " + odd, x.tell(odd == 1000 ? 1 : odd, 0, 4), -1);
            Check.due("no step " + odd, x.tell(0, odd == 1000 ? 2 : odd, 4), -1);
            Check.due("told", x.count(11), 1);
        }
        Check.due("what was told first holds", x.fits(0, 1, 0), 0);
        Check.says("All that was TOLD is forgotten: how many there were.");
        Check.due("forget", x.forget(), 1);
        Check.due("forget", x.forget(), 0);
        Check.due("told", x.count(11), 0);
        Check.due("a new one", new SleepWork().forget(), 0);
        Check.due("a new one", new SleepWork().tell(0, 0, 0), -1);
    }

    private static void known() {
        Check.says("KNOWN by k: the first k");
        SleepWork x = Check.house(SMALL);
        // Tom alone does step 0 four times; that step 1 was done once contradicts it.
        x.tell(0, 0, 4);
        x.tell(0, 1, 1);
        int[] due = {3, 1, 0};
        for (int k = 0; k <= 2; k++) {
            Check.due("tom, known by " + k, x.fits(0, k, -1), due[k]);
        }
        for (int k : new int[] {-1, 3, FAR, MIN, MAX}) {
            Check.due("no k " + k, x.fits(0, k, -1), -1);
            Check.due("no k " + k, x.fits(0, k, 0), -1);
            Check.due("no k " + k, x.suspects(k), -1);
            Check.due("no k " + k, x.pairs(0, 1, k), -1);
        }
        x = Check.house(SMALL);
        Check.due("nothing told: all", x.fits(0, 0, -1), 3);
        Check.due("no k", x.fits(0, 1, -1), -1);
        x.leave(0, -1, -1);
        x.tell(0, 0, 1);
        Check.due("done none, told one", x.fits(0, 1, 0), -1);
        x.forget();
        x.tell(0, 0, 0);
        Check.due("done none, told none", x.fits(0, 1, 0), -2);
    }

    private static void fits() {
        Check.says("How many a MAN FITS, as KNOWN by k (i NONE); else the i-th, nothing first, then by TASKS, STEPS (as best()); NONE: no such ones, not so many.");
        SleepWork x = Check.house("room a;task t a 9;step t 1 9 1 0;step t 1 9 1 0;task u a 9;step u 1 9 1 0;task v a 9;step v 1 9 0 0;step v 1 9 0 0;man m a left t 1;man n a;night 1;");
        int[] all = {-2, 0, 1, 10, 20, 21};
        Check.due("all", x.fits(1, 0, -1), all.length);
        for (int i = 0; i < all.length; i++) {
            Check.due("the one numbered " + i, x.fits(1, 0, i), all[i]);
        }
        for (int i : new int[] {-2, all.length, FAR, MIN, MAX}) {
            Check.due("not so many " + i, x.fits(1, 0, i), -1);
        }
        x.tell(0, 0, 0);
        x.tell(2, 1, 0);
        int[] some = {-2, 1, 10, 20};
        Check.due("some", x.fits(1, 2, -1), some.length);
        for (int i = 0; i < some.length; i++) {
            Check.due("the one numbered " + i, x.fits(1, 2, i), some[i]);
        }
        Check.due("not so many", x.fits(1, 2, 4), -1);
        x.tell(1, 0, 7);
        Check.due("none", x.fits(1, 3, -1), 0);
        Check.due("not so many", x.fits(1, 3, 0), -1);
        for (int man : new int[] {-1, 2, 6, FAR, MIN, MAX}) {
            Check.due("nobody " + man, x.fits(man, 0, -1), -1);
            Check.due("nobody " + man, x.fits(man, 0, 0), -1);
        }
        x = Check.house("room a;man m a;");
        Check.due("nothing", x.fits(0, 0, -1), 1);
        Check.due("nothing", x.fits(0, 0, 0), -2);
        Check.due("not so many", x.fits(0, 0, 1), -1);
    }

    private static void fitsFromNow() {
        Check.says("A MAN FITS what he may have LEFT (nothing; a TASK, a STEP) if behind a NIGHT from now, all else as it is, all that is KNOWN is so.");
        SleepWork x = Check.house("room a;room b;door a b 1;task t b 9;step t 1 9 1 0;step t 1 9 1 0;man m a;man n b;night 2;");
        x.tell(0, 0, 1);
        x.tell(0, 1, 0);
        Check.due("m was there for a minute", x.fits(0, 2, -1) * 100 + x.fits(0, 2, 0), 100);
        Check.due("n would have done two", x.fits(1, 2, -1), 0);
        x.work(0, 0);
        Check.due("it is done by now: nothing", x.fits(0, 2, -1) * 100 + x.fits(0, 2, 0), 100 - 2);
        Check.due("it is done by now: nothing", x.fits(1, 2, -1) * 100 + x.fits(1, 2, 0), 100 - 2);
        x.leave(1, 0, 1);
        Check.due("n does the other step, whatever m left", x.fits(0, 2, -1), 0);
        Check.due("n himself", x.fits(1, 2, -1) * 100 + x.fits(1, 2, 0), 100 - 2);
        x.forget();
        // One known thing that is not so is enough, wherever it stands among thirty.
        x.leave(1, -1, -1);
        for (int i = 0; i < 30; i++) {
            x.tell(0, i % 2, i == 29 ? 7 : 1 - i % 2);
        }
        Check.due("twenty-nine that are so", x.fits(0, 29, -1), 1);
        Check.due("the last one is not", x.fits(0, 30, -1), 0);
        Check.due("a night gone by counts for nothing", x.night(), 0);
        Check.due("twenty-nine that are so", x.fits(0, 29, 0), -2);
    }

    private static void suspects() {
        Check.says("SUSPECTS: MEN who FIT something that is not what they LEFT as it stands");
        SleepWork x = Check.house("room a;task t a 9;step t 1 9 1 0;" + Check.many("man # a left t 0;", 6) + "night 1;");
        Check.due("all", x.suspects(0), 63);
        x.tell(0, 0, 6);
        Check.due("each must have left it", x.suspects(1), 0);
        x.leave(5, -1, -1);
        Check.due("the last one may have, none of the others", x.suspects(1), 32);
        x.forget();
        x.tell(0, 0, 5);
        Check.due("all as it stands", x.suspects(1), 0);
        x.forget();
        x.tell(0, 0, 4);
        Check.due("any of the first five may have left nothing", x.suspects(1), 31);
        x = Check.house("room a;" + Check.many("man # a;", 6));
        Check.due("nothing but what they left", x.suspects(0), 0);
        x = Check.house("room a;task t a 9;step t 1 0 0 0;man m a left t 0;");
        x.tell(0, 0, 0);
        Check.due("left something that comes to the same as nothing", x.suspects(1), 1);
        Check.says("SUSPECTS (bits), as KNOWN by k; NONE: no such k.");
        for (int k : new int[] {-1, 2, FAR, MIN, MAX}) {
            Check.due("no k " + k, x.suspects(k), -1);
        }
        Check.due("a new one", new SleepWork().suspects(0), 0);
        Check.due("a new one", new SleepWork().suspects(1), -1);
    }

    private static void pairs() {
        Check.says("How many pairs two MEN FIT together, as KNOWN by k; NONE: no such ones, one and the same.");
        SleepWork x = Check.house("room a;task t a 9;step t 1 9 1 0;step t 1 9 1 0;man m a left t 0;man n a;man k a left t 0;night 1;");
        Check.due("all", x.pairs(0, 1, 0), 9);
        x.tell(0, 0, 1);
        Check.due("k did it: each nothing or 1", x.pairs(0, 1, 1), 4);
        Check.due("m did it: each nothing or 1", x.pairs(1, 2, 1), 4);
        Check.due("one of them did it", x.pairs(0, 2, 1), 4);
        x.tell(0, 1, 1);
        Check.due("k did it, one of them the other", x.pairs(0, 1, 2), 2);
        Check.due("one this, one that", x.pairs(2, 0, 2), 2);
        x.tell(0, 1, 2);
        Check.due("none", x.pairs(0, 1, 3), 0);
        for (int man : new int[] {-1, 3, 6, FAR, MIN, MAX}) {
            Check.due("nobody " + man, x.pairs(man, 0, 0), -1);
            Check.due("nobody " + man, x.pairs(1, man, 0), -1);
            Check.due("nobody twice " + man, x.pairs(man, man, 0), -1);
            Check.due("no k", x.pairs(0, 1, man == 3 ? 4 : man), -1);
        }
        for (int man = 0; man < 3; man++) {
            Check.due("the same", x.pairs(man, man, 0), -1);
        }
        Check.due("without tasks", Check.house("room a;man m a;man n a;").pairs(0, 1, 0), 1);
    }

    private static void pairsTogether() {
        Check.says("two MEN FIT likewise together");
        // Only together they do both steps of one night; a third is as he left it.
        SleepWork x = Check.house("room a;task t a 9;step t 1 9 1 0;step t 1 9 1 0;man m a;man n a;man k a left t 1;night 1;");
        x.tell(0, 0, 1);
        x.tell(0, 1, 2);
        Check.due("m alone", x.fits(0, 2, -1), 0);
        Check.due("n alone", x.fits(1, 2, -1), 0);
        Check.due("one this, one that", x.pairs(0, 1, 2), 2);
        Check.due("whoever is named first", x.pairs(1, 0, 2), 2);
        Check.due("nobody is suspect alone", x.suspects(2), 0);
        Check.due("with k: three must do it", x.pairs(0, 2, 2), 0);
        x.leave(1, 0, 0);
        Check.due("n as he left it: m and k do 1", x.pairs(0, 2, 2), 1);
        Check.due("what the two left does not count", x.pairs(0, 1, 2), 2);
        // As many as there can be: 37 times 37.
        StringBuilder text = new StringBuilder("room a;");
        for (char task = 'c'; task <= 'h'; task++) {
            text.append("task ").append(task).append(" a 1;").append(Check.many("step " + task + " 1 1 1 0;", 6));
        }
        x = Check.house(text + "man m a;man n a;night 1;");
        Check.due("all", x.pairs(0, 1, 0), 37 * 37);
        Check.due("all of one", x.fits(1, 0, -1), 37);
        Check.due("the last of all", x.fits(1, 0, 36), 55);
        Check.due("not so many", x.fits(1, 0, 37), -1);
        x.tell(5, 5, 1);
        // Stuff for one: m has the last step, or n has it and m nothing of that task.
        Check.due("one of them did the last", x.pairs(0, 1, 1), 37 + 31);
    }
}
