/** The form of texts and their faults: promises 4 and 5 with part I of the terms. */
public final class TextsTest {
    private static final String BASE = "room a; room b; tool o a; task t a 9; step t 1 1 1 1; man m a;";
    private static final int BEHIND = BASE.length();

    private TextsTest() { }

    public static void main(String[] args) {
        tokens();
        syntax();
        space();
        spaceAndSyntaxAtOnePlace();
        names();
        numbers();
        order();
        laws();
        whatReadingChanges();
        Check.end();
    }

    private static void tokens() {
        Check.house("");
        Check.house(" \t\r\n");
        Check.house("room abcdefgh;");
        Check.house("room\ta\r\n;room b;door a b1shut;night0600;");
        Check.house("room rooms; room steps" + "x;");
        Check.fault("room abcdefghi;", 1, 5);
        Check.fault("room steps;", 1, 5);
        Check.fault("room times;", 1, 5);
        Check.fault("room A;", 1, 5);
        Check.fault("room a1;", 1, 6);
        Check.fault("room \u00e4;", 1, 5);
        Check.fault("room \u0000;", 1, 5);
        Check.fault("room a.", 1, 6);
        Check.fault("night 00001;", 1, 6);
        Check.fault("night 12345", 1, 6);
        Check.fault("nights 5;", 1, 0);
        Check.fault("\f", 1, 0);
        Check.fault("\u0007 5;", 1, 0);
        Check.fault("room \u0064;?", 1, 7);
    }

    private static void syntax() {
        Check.fault("room", 1, 4);
        Check.fault("room a  ", 1, 8);
        Check.fault("room a;;", 1, 7);
        Check.fault(";", 1, 0);
        Check.fault("a", 1, 0);
        Check.fault("room a b;", 1, 7);
        Check.fault(BASE + "door a b;", 1, BEHIND + 8);
        Check.fault(BASE + "door a b 1 shut shut;", 1, BEHIND + 16);
        Check.fault(BASE + "tool p;", 1, BEHIND + 6);
        Check.fault(BASE + "task p a;", 1, BEHIND + 8);
        Check.fault(BASE + "step t 1 1 1;", 1, BEHIND + 12);
        Check.fault(BASE + "step t 1 1 1 1 undoes 0 with o;", 1, BEHIND + 24);
        Check.house(BASE + "step t 1 1 1 1 with o undoes 0;");
        Check.fault(BASE + "man n a left t;", 1, BEHIND + 14);
        Check.fault(BASE + "man n a left 0;", 1, BEHIND + 13);
        Check.fault(BASE + "law m 1;", 1, BEHIND + 6);
        Check.fault(BASE + "law m = ;", 1, BEHIND + 8);
        Check.fault(BASE + "law m = -1;", 1, BEHIND + 8);
        Check.fault(BASE + "law m = 1 < 2;", 1, BEHIND + 10);
        Check.fault(BASE + "law m = if 1 then 2 else 3;", 1, BEHIND + 13);
        Check.fault(BASE + "law m = if 1 < 2 < 3 then 2 else 3;", 1, BEHIND + 17);
        Check.fault(BASE + "law m = if 1 < 2 then 3;", 1, BEHIND + 23);
        Check.fault(BASE + "law m = (1;", 1, BEHIND + 10);
        Check.fault(BASE + "law m = 1);", 1, BEHIND + 9);
        Check.fault(BASE + "law m = m;", 1, BEHIND + 8);
        Check.fault(BASE + "law m = 1 + * 2;", 1, BEHIND + 12);
        Check.fault(BASE + "law m = if 1 < 2 then if 1 < 2 then 1 else 1 else 2;", 1, BEHIND + 22);
        Check.fault("night;", 1, 5);
    }

    private static void space() {
        Check.house(BASE + Check.many("room #;", 6));
        Check.fault(BASE + Check.many("room #;", 7), 2, BEHIND + 42);
        Check.house(BASE + Check.many("door a b 1;", 12));
        Check.fault(BASE + Check.many("door a b 1;", 13), 2, BEHIND + 132);
        Check.house(BASE + Check.many("tool # a;", 5));
        Check.fault(BASE + Check.many("tool # a;", 6), 2, BEHIND + 45);
        Check.house(BASE + Check.many("task # a 1;", 5));
        Check.fault(BASE + Check.many("task # a 1;", 6), 2, BEHIND + 55);
        Check.house(BASE + Check.many("man # a;", 5));
        Check.fault(BASE + Check.many("man # a;", 6), 2, BEHIND + 40);
        Check.house(BASE + Check.many("law m=1;", 8));
        Check.fault(BASE + Check.many("law m=1;", 9), 2, BEHIND + 64);
        Check.house(BASE + Check.many("step t 1 1 1 1;", 5));
        Check.fault(BASE + Check.many("step t 1 1 1 1;", 6), 2, BEHIND + 75);
        Check.fault(BASE + Check.many("step t 1 1 1 1;", 5) + "step t", 2, BEHIND + 75);
        Check.fault(BASE + Check.many("step t 1 1 1 1;", 5) + "step t x", 2, BEHIND + 75);
        Check.fault(BASE + Check.many("step t 1 1 1 1;", 5) + "step", 1, BEHIND + 79);
        Check.fault(BASE + Check.many("step t 1 1 1 1;", 5) + "step 1", 1, BEHIND + 80);
        Check.fault(BASE + Check.many("step u 1 1 1 1;", 8), 4, BEHIND + 5);
        Check.house(BASE + "law m=" + Check.many("if 1<2 then 3 else ", 4) + "5;");
        Check.fault(BASE + "law m=" + Check.many("if 1<2 then 3 else ", 5) + "5;", 2, BEHIND + 6 + 4 * 19);
        Check.house(BASE + "law m=((((((1))))));");
        Check.house(BASE + "law m=((((((1))))))+(2)*((((((3))))));");
        Check.fault(BASE + "law m=(((((((1)))))));", 2, BEHIND + 12);
        Check.fault(BASE + "law m=1+(((((((1)))))));", 2, BEHIND + 14);
        Check.house(Check.many("night 1;", 133));
        Check.fault(Check.many("night 1;", 133) + "night", 1, 133 * 8 + 5);
        Check.fault(Check.many("night 1;", 133) + "night 1;", 2, 133 * 8 + 6);
    }

    private static void spaceAndSyntaxAtOnePlace() {
        String full = Check.many("night 1;", 133) + "night ";
        Check.fault(full + ";", 1, full.length());
        Check.fault(full + "?", 1, full.length());
        Check.fault(full + "1?", 2, full.length());
        Check.fault(full, 1, full.length());
        // 26 tokens stand in BASE, so here are 400 and no more: a whole text.
        String even = BASE + "task u a 1;" + Check.many("night 1;", 123);
        Check.house(even);
        Check.fault(even + "room", 2, even.length());
        Check.fault(even + "x", 1, even.length());
        // 399: the seventh step's fault lies at its word, though its task is the first token too many.
        String odd = BASE + Check.many("step t 1 1 1 1;", 5) + "task u a 1;" + Check.many("night 1;", 111);
        Check.fault(odd + "step t 1 1 1 1;", 2, odd.length());
        Check.fault(odd + "step u 1 1 1 1;", 2, odd.length() + 5);
        Check.fault(odd + "step 1", 1, odd.length() + 5);
    }

    private static void names() {
        Check.fault("room a;room a;", 3, 12);
        Check.fault(BASE + "room o;", 3, BEHIND + 5);
        Check.fault(BASE + "tool t a;", 3, BEHIND + 5);
        Check.fault(BASE + "task m a 1;", 3, BEHIND + 5);
        Check.fault(BASE + "man a a;", 3, BEHIND + 4);
        Check.fault(BASE + "man m a;", 3, BEHIND + 4);
        Check.fault("door a b 1;", 4, 5);
        Check.fault(BASE + "door a c 1;", 4, BEHIND + 7);
        Check.fault(BASE + "door t a 1;", 4, BEHIND + 5);
        Check.fault(BASE + "door a c 1; room c;", 4, BEHIND + 7);
        Check.fault(BASE + "tool p t;", 4, BEHIND + 7);
        Check.fault(BASE + "tool p p;", 4, BEHIND + 7);
        Check.fault(BASE + "task p o 1;", 4, BEHIND + 7);
        Check.fault(BASE + "man n m;", 4, BEHIND + 6);
        Check.fault(BASE + "step o 1 1 1 1;", 4, BEHIND + 5);
        Check.fault(BASE + "step t 1 1 1 1 with t;", 4, BEHIND + 20);
        Check.fault(BASE + "man n a left a 0;", 4, BEHIND + 13);
        Check.fault(BASE + "law n = 1;", 4, BEHIND + 4);
        Check.fault(BASE + "law t = 1;", 4, BEHIND + 4);
        Check.fault(BASE + "door a a 1;", 5, BEHIND + 7);
    }

    private static void numbers() {
        Check.house(BASE + "door a b 60;");
        Check.fault(BASE + "door a b 61;", 5, BEHIND + 9);
        Check.fault(BASE + "door a b 0;", 5, BEHIND + 9);
        Check.house(BASE + "task u a 999; task v a 0;");
        Check.fault(BASE + "task u a 1000;", 5, BEHIND + 9);
        Check.house(BASE + "step t 120 99 99 99; step t 1 0 0 0;");
        Check.fault(BASE + "step t 0 1 1 1;", 5, BEHIND + 7);
        Check.fault(BASE + "step t 121 1 1 1;", 5, BEHIND + 7);
        Check.fault(BASE + "step t 1 100 1 1;", 5, BEHIND + 9);
        Check.fault(BASE + "step t 1 1 100 1;", 5, BEHIND + 11);
        Check.fault(BASE + "step t 1 1 1 100;", 5, BEHIND + 13);
        Check.fault(BASE + "step t 1 1 1 1 undoes 1;", 5, BEHIND + 22);
        Check.fault(BASE + "task u a 1; step u 1 1 1 1 undoes 0;", 5, BEHIND + 34);
        Check.fault(BASE + "man n a left t 1;", 5, BEHIND + 15);
        Check.fault(BASE + "task u a 1; man n a left u 0;", 5, BEHIND + 27);
        Check.house("night 600;");
        Check.house("night 1;");
        Check.fault("night 0;", 5, 6);
        Check.fault("night 601;", 5, 6);
        Check.house(BASE + "law m = 9999;");
    }

    private static void order() {
        Check.fault("door x y 0; room a; room a; ?", 1, 28);
        Check.fault("door x y 0; " + Check.many("room #;", 9), 2, 12 + 56);
        Check.fault("door x y 0; room a; room a;", 4, 5);
        Check.fault("night 0; room a; room a;", 5, 6);
        Check.fault(BASE + "step u 0 1 1 1 with z undoes 5;", 4, BEHIND + 5);
        Check.fault(BASE + "step t 0 1 1 1 with z undoes 5;", 5, BEHIND + 7);
        Check.fault(BASE + "step t 1 1 1 1 with z undoes 5;", 4, BEHIND + 20);
        Check.fault(Check.many("room #;", 9) + "?", 2, 56);
    }

    /** A law's answer shows in which step is done: one minute each, 6 steps. */
    private static int chosen(String law) {
        String steps = Check.many("step t 1 99 1 1;", 6);
        SleepWork x = Check.house("room a; task t a 50;" + steps + "man m a left t 2; law m = 5; law m = " + law + "; night 1;");
        x.night();
        return x.man(0, 2);
    }

    private static void laws() {
        String[] laws = {"last", "last + 1", "last - 1", "1 + 2 * 2", "(1 + 1) * 2", "7 - 2 - 1", "8 / 2 / 2", "7 / 2",
            "0 - 7", "99", "steps - 2", "stuff / 10", "minute", "times", "done", "1 / 0", "4 - 3 / (minute)",
            "if 1 < 2 then 4 else 5", "if 2 < 2 then 4 else 5", "if 1 < 0 then 1 / 0 else 3", "if 1 / 0 < 5 then 3 else 4",
            "if 0 < 1 then 4 else 1 / 0", "if 3 < 2 then 0 else if 2 < 3 then 1 else 5", "9999 * 9999 * 9999 * 9999",
            "(0 - 7) / 2 + 5", "5 - 2 * 2", "2 * 3 - 1", "12 / 4 * 2 - 1", "2 * 9 / 5", "9 / 5 * 2",
            "if 0 < 1 then 1 + 2 else 0", "if 1 < 2 + 1 then 2 * 2 else 0", "(((((5))))) - 1 * (2 + 1)"};
        int[] due = {2, 3, 1, 5, 4, 4, 2, 3,
            0, 5, 4, 5, 0, 0, 0, 2, 2,
            4, 5, 3, 2,
            4, 1, wrapped(),
            2, 1, 5, 5, 3, 2,
            3, 4, 2};
        for (int i = 0; i < laws.length; i++) {
            Check.due("law " + laws[i], chosen(laws[i]), due[i]);
        }
    }

    private static int wrapped() {
        int all = 9999 * 9999 * 9999 * 9999;
        return Math.max(0, Math.min(5, all));
    }

    private static void whatReadingChanges() {
        SleepWork x = Check.house(BASE + "man n a left t 0; night 5;");
        x.night();
        x.work(0, 0);
        x.hold(1);
        x.tell(0, 0, 1);
        Check.feed(x, "room ?");
        Check.due("a fault", x.read(), 1);
        Check.due("its place", x.place(), 5);
        Check.due("rooms", x.count(0), 2);
        Check.due("nights", x.count(6), 1);
        Check.due("undoable", x.count(10), 1);
        Check.due("told", x.count(11), 1);
        Check.due("slots", x.count(12), 1);
        Check.feed(x, "room a; room b; tool o a; task t a 9; step t 1 1 1 1;man m b left t 0;");
        Check.due("none", x.read(), 0);
        Check.due("its place", x.place(), -1);
        Check.due("men", x.count(4), 1);
        Check.due("minutes", x.count(5), 480);
        Check.due("nights", x.count(6), 0);
        Check.due("undoable", x.count(10), 0);
        Check.due("told", x.count(11), 0);
        Check.due("slots", x.count(12), 0);
        Check.due("done", x.step(0, 0, 0), 0);
        Check.due("stuff", x.task(0, 2), 9);
        Check.due("in all", x.man(0, 4), 0);
        Check.due("undo", x.undo(), false);
        Check.due("restore", x.restore(1), false);
        Check.due("way", x.way(0, 1), -2);
        Check.due("no law is kept", x.gain(), 0);
        Check.due("an empty text", x.read(), 0);
        Check.due("rooms", x.count(0), 0);
        Check.due("men", x.count(4), 0);
    }
}
