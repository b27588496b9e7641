import java.util.List;

/** Edges of what a text has space for, of its names and numbers, and which of several faults counts: part I of the terms. */
public final class EdgeFaultsTest {
    private static final String BASE = "room a;room b;tool o a;task t a 9;step t 1 1 1 1;man m a;";
    // Seven tokens stand in each: 'step t 1 1 1 1 ;'.
    private static final String STEP = "step t 1 1 1 1;";

    private EdgeFaultsTest() { }

    public static void main(String[] args) {
        rooms();
        doors();
        tools();
        tasks();
        men();
        lawsOfAText();
        steps();
        ifs();
        brackets();
        tokens();
        tokensAndOthers();
        numbers();
        night();
        undoes();
        left();
        doorToItself();
        twice();
        unknown();
        numberedAsTheyStand();
        firstByPlace();
        leastOfOnePlace();
        formAndSpaceFirst();
        namesAndNumbersByPlace();
        faultChangesNothing();
        inPlaceOfTheOneAhead();
        asOnANewObject();
        waysAnew();
        lawsHaveSpaceAnew();
        Check.end();
    }

    private static void rooms() {
        Check.says("ROOMS, 8 at most");
        SleepWork x = Check.house(Check.many("room #;", 8) + "door c j 5;");
        Check.due("rooms", x.count(0), 8);
        Check.due("the last", x.way(0, 7), 5);
        Check.due("no more", x.way(0, 8), -1);
        Check.says("a 9th room, a 13th door, a 7th tool, task or man, a 9th law (at its first TOKEN)");
        Check.faultAtMark(Check.many("room #;", 8) + "@room k;", 2);
        Check.faultAtMark(Check.many("room #;", 8) + "@room", 2);
        Check.faultAtMark(Check.many("room #;", 8) + "@room ?", 2);
        Check.faultAtMark(Check.many("room c;", 8) + "@room c;", 2);
        Check.fault(Check.many("room #;", 8) + "roomk;", 1, 56);
    }

    private static void doors() {
        Check.says("DOORS, 12 at most");
        SleepWork x = Check.house("room a;room b;" + Check.many("door a b 9;", 11) + "door b a 5;");
        Check.due("doors", x.count(1), 12);
        Check.due("the last", x.way(0, 1), 5);
        Check.due("the last", x.bar(11, true), true);
        Check.due("without it", x.way(0, 1), 9);
        Check.due("no more", x.bar(12, true), false);
        Check.says("a 9th room, a 13th door, a 7th tool, task or man, a 9th law (at its first TOKEN)");
        Check.faultAtMark("room a;room b;" + Check.many("door a b 9;", 12) + "@door a b 9;", 2);
        Check.faultAtMark("room a;room b;" + Check.many("door a b 9;", 12) + "@door", 2);
        Check.faultAtMark(Check.many("door a b 9 shut;", 12) + "@door a b 9;", 2);
    }

    private static void tools() {
        Check.says("TOOLS, 6 at most");
        SleepWork x = Check.house("room a;room b;" + Check.many("tool # a;", 5) + "tool z b;");
        Check.due("tools", x.count(2), 6);
        Check.due("the last", x.tool(5), 1);
        Check.due("no more", x.tool(6), -1);
        Check.due("the last", x.lay(5, 0), true);
        Check.due("no more", x.lay(6, 0), false);
        Check.says("a 9th room, a 13th door, a 7th tool, task or man, a 9th law (at its first TOKEN)");
        Check.faultAtMark("room a;room b;" + Check.many("tool # a;", 6) + "@tool z b;", 2);
        Check.faultAtMark("room a;room b;" + Check.many("tool # a;", 6) + "@tool", 2);
    }

    private static void tasks() {
        Check.says("TASKS, 6 at most");
        SleepWork x = Check.house("room a;room b;" + Check.many("task # a 1;", 5) + "task z b 7;step z 1 2 3 4;");
        Check.due("tasks", x.count(3), 6);
        Check.due("the last", x.task(5, 2), 7);
        Check.due("its step", x.step(5, 0, 4), 4);
        Check.due("no more", x.task(6, 2), -1);
        Check.says("a 9th room, a 13th door, a 7th tool, task or man, a 9th law (at its first TOKEN)");
        Check.faultAtMark("room a;room b;" + Check.many("task # a 1;", 6) + "@task z b 7;", 2);
        Check.faultAtMark("room a;room b;" + Check.many("task # a 1;", 6) + "@task", 2);
    }

    private static void men() {
        Check.says("MEN, 6 at most");
        SleepWork x = Check.house("room a;room b;" + Check.many("man # a;", 5) + "man z b;law z=1;");
        Check.due("men", x.count(4), 6);
        Check.due("the last", x.man(5, 0), 1);
        Check.due("no more", x.man(6, 0), -1);
        Check.says("a 9th room, a 13th door, a 7th tool, task or man, a 9th law (at its first TOKEN)");
        Check.faultAtMark("room a;room b;" + Check.many("man # a;", 6) + "@man z b;", 2);
        Check.faultAtMark("room a;room b;" + Check.many("man # a;", 6) + "@man", 2);
    }

    private static void lawsOfAText() {
        Check.says("a 9th room, a 13th door, a 7th tool, task or man, a 9th law (at its first TOKEN)");
        String two = "room a;task t a 9;step t 1 9 1 0;step t 1 9 2 0;man m a left t 0;man n a left t 0;night 1;";
        SleepWork x = Check.house(two + Check.many("law m=0;", 3) + Check.many("law n=0;", 3) + "law n=1;law m=1;");
        Check.due("eight laws, the last ones count", x.gain(), 4);
        Check.faultAtMark(two + Check.many("law m=0;", 4) + Check.many("law n=0;", 4) + "@law n=1;", 2);
        Check.faultAtMark(two + Check.many("law m=0;", 8) + "@law", 2);
        Check.faultAtMark(two + Check.many("law z=0;", 8) + "@law m=0;", 2);
        Check.says("a LAW for a MAN (the last one told; none: last)");
        Check.due("none: last", Check.house(two).gain(), 2);
        Check.due("one", Check.house(two + "law m=1;").gain(), 3);
        Check.due("the last one", Check.house(two + "law m=1;law m=0;").gain(), 2);
        Check.due("that of the other", Check.house(two + "law m=0;law n=1;law m=0;").gain(), 3);
    }

    private static void steps() {
        Check.says("STEPS of a TASK, 6 at most");
        String two = "room a;task t a 9;task u a 9;";
        SleepWork x = Check.house(two + Check.many(STEP, 5) + "step t 6 5 4 3;" + Check.many("step u 1 1 1 1;", 6));
        Check.due("steps", x.task(0, 1), 6);
        Check.due("the last", x.step(0, 5, 1), 6);
        Check.due("no more", x.step(0, 6, 1), -1);
        Check.due("steps of the other", x.task(1, 1), 6);
        Check.says("a 7th STEP of a TASK (at the word step, as soon as its TASK is read)");
        String six = two + Check.many(STEP + "step u 1 1 1 1;", 6);
        Check.faultAtMark(six + "@step t 1 1 1 1;", 2);
        Check.faultAtMark(six + "@step u 1 1 1 1;", 2);
        Check.faultAtMark(six + "@step t", 2);
        Check.faultAtMark(six + "@step t ?", 2);
        Check.faultAtMark(six + "@step t;", 2);
        Check.faultAtMark(six + "step@", 1);
        Check.faultAtMark(six + "step @?", 1);
        Check.faultAtMark(six + "step @1", 1);
        Check.faultAtMark(six + "step v @?", 1);
        Check.faultAtMark(two + Check.many("step t 0 1 1 1;", 6) + "@step t 1 1 1 1;", 2);
        Check.faultAtMark(two + "step @z 1 1 1 1;" + Check.many("step z 1 1 1 1;", 9), 4);
        // Five of t and six of u: an eleventh and twelfth step of the text, but no seventh of a task.
        Check.house(two + Check.many(STEP, 5) + Check.many("step u 1 1 1 1;", 6) + STEP);
    }

    private static void ifs() {
        Check.says("a 5th if of a LAW (at it)");
        String one = "if 0<0 then 1 else ";
        Check.house(BASE + "law m=" + Check.many(one, 3) + "2;");
        Check.house(BASE + "law m=" + Check.many(one, 4) + "2;");
        Check.house(BASE + "law m=" + Check.many(one, 4) + "2;law m=" + Check.many(one, 4) + "2;");
        Check.faultAtMark(BASE + "law m=" + Check.many(one, 4) + "@if 0<0 then 1 else 2;", 2);
        Check.faultAtMark(BASE + "law m=" + Check.many(one, 4) + "@if", 2);
        Check.faultAtMark(BASE + "law m=" + Check.many(one, 4) + "@if if", 2);
        Check.faultAtMark(BASE + "law m=" + one + "2;law m=" + Check.many(one, 4) + "@if ?", 2);
        Check.faultAtMark(BASE + "law m=" + Check.many(one, 4) + "2 @if", 1);
        String six = "room a;task t a 9;" + Check.many(STEP, 6) + "man m a left t 0;night 1;law m=";
        String[] holds = {"if 0<1 then 1 else ", "if 0<1 then 2 else ", "if 0<1 then 3 else ", "if 0<1 then 4 else "};
        String law = "5;";
        for (int i = 4; i >= 0; i--) {
            SleepWork x = Check.house(six + Check.many("if 0<0 then 0 else ", i) + law);
            x.night();
            Check.due("the if numbered " + i, x.man(0, 2), i + 1);
            law = i > 0 ? holds[i - 1] + law : law;
        }
    }

    private static void brackets() {
        Check.says("a 7th ( within one another (at it)");
        String law = BASE + "law m=";
        Check.house(law + "(((((1)))));");
        Check.house(law + "((((((1))))));");
        Check.house(law + "((((((1))))))+((((((1))))))*((((((1))))));");
        Check.house(law + "(((((2-(1))))));");
        Check.house(law + "if ((((((1))))))<((((((1)))))) then ((((((1)))))) else ((((((1))))));");
        Check.house(law + "(1)+(2)*(3)-(4)/(5)+(6)+(7)+(8);");
        Check.house(law + "(((((1)+(2))))*((3)));");
        Check.faultAtMark(law + "((((((@(1)))))));", 2);
        Check.faultAtMark(law + "((((((@(", 2);
        Check.faultAtMark(law + "((((((1+@(2)))))));", 2);
        Check.faultAtMark(law + "((((((1*2)))*(((3-@(4)))))));", 2);
        Check.faultAtMark(law + "if ((((((@(1)))))))<1 then 2 else 3;", 2);
        Check.faultAtMark(law + "if 1<((((((@(1))))))) then 2 else 3;", 2);
        Check.faultAtMark(law + "if 1<2 then ((((((@(1))))))) else 3;", 2);
        Check.faultAtMark(law + "if 1<2 then 3 else ((((((@(1)))))));", 2);
        Check.faultAtMark(law + "((((((1 @(", 1);
        Check.faultAtMark(law + "((((((1))))))@)", 1);
    }

    private static String nights(int tells) {
        return Check.many("night 1;", tells);
    }

    private static void tokens() {
        Check.says("a 401st TOKEN");
        // 'night 1 ;' has three tokens: 399 and no more.
        Check.house(nights(133));
        Check.faultAtMark(nights(133) + "night @1;", 2);
        Check.faultAtMark(nights(133) + "night@", 1);
        // 3 + 3 + 5 + 6 and 381 are 398.
        String less = "room a;room b;door a b 7;door a b 7 shut;" + nights(127);
        Check.due("398", Check.house(less).count(1), 2);
        Check.faultAtMark(less + "night 1@;", 2);
        // 3 + 3 + 5 + 5 and 384 are 400.
        String whole = "room a;room b;door a b 7;door a b 7;" + nights(127) + "night 9;";
        Check.due("400, the last of them read", Check.house(whole).count(5), 9);
        Check.house(whole + " \t\r\n");
        for (String next : new String[] {"room", "door", "tool", "task", "step", "man", "law", "night"}) {
            Check.faultAtMark(whole + "@" + next, 2);
            Check.faultAtMark(whole + " \n@" + next + " z", 2);
        }
    }

    private static void tokensAndOthers() {
        Check.says("of one place the least");
        String whole = "room a;room b;door a b 7;door a b 7;" + nights(128);
        Check.faultAtMark(whole + "@x", 1);
        Check.faultAtMark(whole + "@;", 1);
        Check.faultAtMark(whole + "@1", 1);
        Check.faultAtMark(whole + "@?", 1);
        Check.faultAtMark(whole + "@roomroomr", 1);
        // Here the 401st is the sign behind the last number.
        String ahead = "room a;room b;door a b 7;door a b 7 shut;" + nights(127) + "night 1";
        Check.faultAtMark(ahead + "@;", 2);
        Check.faultAtMark(ahead + " @1;", 1);
        Check.faultAtMark(ahead + "@?", 1);
        Check.faultAtMark(ahead + "@", 1);
        Check.faultAtMark(ahead + " @shut", 1);
        // 24 + 5 + 5 + 6 and 360 are 400: the 401st is a ninth room too.
        String rooms = Check.many("room #;", 8) + "door c d 7;door c d 7;door c d 7 shut;" + nights(120);
        Check.house(rooms);
        Check.faultAtMark(rooms + "@room z;", 2);
    }

    private static void numbers(String head, String tail, int least, int most) {
        for (int n : new int[] {least, least + 1, most - 1, most}) {
            Check.house(head + n + tail);
        }
        for (int n : new int[] {least - 1, most + 1, most + 256, 9999}) {
            if (n >= 0) {
                Check.fault(head + n + tail, 5, head.length());
            }
        }
    }

    private static void numbers() {
        Check.says("DOORS, 12 at most (two ROOMS, MINUTES 1 .. 60; shut, or open)");
        numbers(BASE + "door a b ", ";", 1, 60);
        numbers(BASE + "door a b ", " shut;", 1, 60);
        Check.due("least", Check.house(BASE + "door a b 1;").way(0, 1), 1);
        Check.due("most", Check.house(BASE + "door a b 60;").way(0, 1), 60);
        Check.says("TASKS, 6 at most (a ROOM, STUFF 0 .. 999)");
        numbers(BASE + "task u a ", ";", 0, 999);
        Check.due("least", Check.house(BASE + "task u a 0;").task(1, 2), 0);
        Check.due("most", Check.house(BASE + "task u a 999;").task(1, 2), 999);
        Check.says("(MINUTES 1 .. 120, NEED 0 .. 99: how many times, GAIN 0 .. 99 of each time up to NEED, SPOIL 0 .. 99 of each time more");
        numbers(BASE + "step t ", " 1 1 1;", 1, 120);
        numbers(BASE + "step t 1 ", " 1 1;", 0, 99);
        numbers(BASE + "step t 1 1 ", " 1;", 0, 99);
        numbers(BASE + "step t 1 1 1 ", ";", 0, 99);
        numbers(BASE + "step t 1 1 1 ", " with o undoes 0;", 0, 99);
        int[] most = {0, 120, 99, 99, 99};
        int[] least = {0, 1, 0, 0, 0};
        SleepWork x = Check.house(BASE + "step t 120 99 99 99;step t 1 0 0 0;");
        for (int what = 0; what < 5; what++) {
            Check.due("most " + what, x.step(0, 1, what), most[what]);
            Check.due("least " + what, x.step(0, 2, what), least[what]);
        }
    }

    private static void night() {
        Check.says("NIGHT: 1 .. 600 minutes (480 if not told; the last one told).");
        numbers("night ", ";", 1, 600);
        Check.due("least", Check.house("night 1;").count(5), 1);
        Check.due("most", Check.house("night 600;").count(5), 600);
        Check.due("not told", Check.house("room a;").count(5), 480);
        Check.due("the last one told", Check.house("night 600;night 3;").count(5), 3);
        Check.faultAtMark("night @601;night 3;", 5);
        SleepWork x = Check.house("night 3;");
        x.read();
        Check.due("not told now", x.count(5), 480);
    }

    private static void undoes() {
        Check.says("undoes, left: no such STEP of that TASK told ahead (looked at only if the TASK is known)");
        String two = "room a;task t a 9;task u a 9;";
        Check.faultAtMark(two + "step t 1 1 1 1 undoes @0;", 5);
        Check.faultAtMark(two + "step u 1 1 1 1;step t 1 1 1 1 undoes @0;", 5);
        Check.house(two + STEP + "step t 1 1 1 1 undoes 0;");
        Check.faultAtMark(two + STEP + "step t 1 1 1 1 undoes @1;" + STEP, 5);
        SleepWork x = Check.house(two + Check.many(STEP, 5) + "step t 1 1 1 1 undoes 4;");
        Check.due("the latest", x.step(0, 5, 6), 4);
        Check.faultAtMark(two + Check.many(STEP, 5) + "step t 1 1 1 1 undoes @5;", 5);
        Check.faultAtMark(two + Check.many(STEP, 5) + "step t 1 1 1 1 undoes @9999;", 5);
        Check.faultAtMark(two + STEP + "step @z 1 1 1 1 undoes 9;", 4);
        Check.due("0000 is 0", Check.house(two + STEP + "step t 1 1 1 1 undoes 0000;").step(0, 1, 6), 0);
    }

    private static void left() {
        Check.says("undoes, left: no such STEP of that TASK told ahead (looked at only if the TASK is known)");
        String two = "room a;task t a 9;task u a 9;step u 1 1 1 1;step u 1 1 1 1;";
        Check.faultAtMark(two + "man m a left t @0;", 5);
        Check.faultAtMark(two + "man m a left t @0;" + STEP, 5);
        SleepWork x = Check.house(two + "man m a left u 1;");
        Check.due("task", x.man(0, 1), 1);
        Check.due("step", x.man(0, 2), 1);
        Check.faultAtMark(two + "man m a left u @2;", 5);
        Check.faultAtMark(two + "man m a left u @2;step u 1 1 1 1;", 5);
        Check.faultAtMark(two + "man m a left @z 9;", 4);
        x = Check.house(two + Check.many(STEP, 6) + "man m a left t 5;");
        Check.due("the last there can be", x.man(0, 2), 5);
        Check.faultAtMark(two + Check.many(STEP, 6) + "man m a left t @6;", 5);
    }

    private static void doorToItself() {
        Check.says("(at the second NAME) a door of a ROOM to itself");
        Check.faultAtMark("room a;room b;door a @a 1;", 5);
        Check.faultAtMark("room a;room b;door b @b 0 shut;", 5);
        Check.faultAtMark("room a;room b;door @z z 1;", 4);
        Check.house("room a;room b;door a b 1;door b a 1;door a b 1;");
    }

    private static void twice() {
        Check.says("3 TWICE: a NAME told already (ROOMS, TOOLS, TASKS and MEN together)");
        String[] heads = {"room ", "tool ", "task ", "man "};
        String[] tails = {";", " r;", " r 1;", " r;"};
        for (int i = 0; i < 4; i++) {
            for (int j = 0; j < 4; j++) {
                Check.faultAtMark("room r;" + heads[i] + "x" + tails[i] + heads[j] + "@x" + tails[j], 3);
                Check.house("room r;" + heads[i] + "x" + tails[i] + heads[j] + "y" + tails[j]);
                Check.faultAtMark("room r;" + heads[i] + "abcdefgh" + tails[i] + heads[j] + "@abcdefgh" + tails[j], 3);
                Check.house("room r;" + heads[i] + "abcdefgh" + tails[i] + heads[j] + "abcdefg" + tails[j]);
            }
        }
        Check.faultAtMark(Check.many("room #;", 7) + "room @i;", 3);
        Check.faultAtMark("room a;" + Check.many("tool # a;", 5) + "tool @g a;", 3);
        Check.faultAtMark("room a;" + Check.many("task # a 1;", 5) + "task @g a 1;", 3);
        Check.faultAtMark("room a;" + Check.many("man # a;", 5) + "man @g a;", 3);
    }

    private static void unknown() {
        Check.says("4 NAME: no such one told ahead (door, tool, task, man: ROOMS; step, left: a TASK; with: a TOOL; law: a MAN)");
        // In BASE a is a room, o a tool, t a task, m a man; z is told behind, as what is asked for.
        String[] wrong = {"o t m z", "o t m z", "o t m z", "o t m z", "o t m z", "a o m z", "a o m z", "a t m z", "a o t z"};
        String[] heads = {"door ", "door a ", "tool n ", "task n ", "man n ", "step ", "man n a left ", "step t 1 1 1 1 with ", "law "};
        String[] tails = {" b 1;", " 1;", ";", " 1;", ";", " 1 1 1 1;", " 0;", ";", "=1;"};
        String[] right = {"a", "b", "a", "a", "a", "t", "t", "o", "m"};
        String[] told = {"room z;", "room z;", "room z;", "room z;", "room z;", "task z a 1;", "task z a 1;", "tool z a;", "man z a;"};
        for (int i = 0; i < heads.length; i++) {
            Check.house(BASE + heads[i] + right[i] + tails[i]);
            for (String name : wrong[i].split(" ")) {
                Check.faultAtMark(BASE + heads[i] + "@" + name + tails[i] + told[i], 4);
            }
        }
        Check.faultAtMark("tool z @z;", 4);
        Check.faultAtMark("room a;man m @m;", 4);
    }

    private static void numberedAsTheyStand() {
        Check.says("are numbered each from 0 on as they stand");
        SleepWork x = Check.house("room a;task t a 1;room b;tool o b;task u b 2;tool p a;man m b;step u 5 1 1 1;room c;door c b 9;"
            + "man n c;step t 6 1 1 1;step u 7 1 1 1;door a b 8 shut;");
        Check.due("tasks", x.task(0, 2) * 10 + x.task(1, 2), 12);
        Check.due("steps", x.step(0, 0, 1) * 100 + x.step(1, 0, 1) * 10 + x.step(1, 1, 1), 657);
        Check.due("tools", x.tool(0) * 10 + x.tool(1), 10);
        Check.due("men", x.man(0, 0) * 10 + x.man(1, 0), 12);
        Check.due("rooms", x.way(2, 1), 9);
        x.bar(1, false);
        Check.due("doors", x.way(0, 1), 8);
    }

    private static void firstByPlace() {
        Check.says("FAULTS of a text, the first by its place");
        String rooms = Check.many("room #;", 8);
        Check.faultAtMark("@?" + rooms + "room z;", 1);
        Check.faultAtMark(rooms + "@room z;?", 2);
        Check.faultAtMark(rooms + "@?room z;", 1);
        Check.faultAtMark(rooms + "@room ?", 2);
        Check.faultAtMark(rooms + "@room z;room y;", 2);
        Check.faultAtMark(rooms + "man c@;room z;", 1);
        Check.faultAtMark("@? ?", 1);
        // A seventh step lies ahead of what is wrong behind its task; a sixth does not.
        String six = "room a;task t a 9;" + Check.many(STEP, 6);
        Check.faultAtMark(six + "@step t 1 1 1 ?", 2);
        Check.faultAtMark("room a;task t a 9;" + Check.many(STEP, 5) + "step t 1 1 1 @?", 1);
    }

    private static void leastOfOnePlace() {
        Check.says("of one place the least");
        // What is no text's next token is 1 even where there is no space either.
        String rooms = Check.many("room #;", 8);
        Check.faultAtMark(rooms + "@rooms z;", 1);
        Check.faultAtMark(BASE + "law m=" + Check.many("if 0<0 then 1 else ", 4) + "1@if", 1);
        Check.faultAtMark(BASE + "law m=((((((1@(", 1);
        Check.faultAtMark(nights(133) + "night @;", 1);
        Check.faultAtMark(nights(133) + "night @if", 1);
    }

    private static void formAndSpaceFirst() {
        Check.says("If there is none, likewise: 3 TWICE");
        String[] late = {"room a;", "man n z;", "night 0;", "door a a 1;", "task n a 1000;", "step t 1 1 1 1 undoes 9;"};
        int[] places = {5, 6, 6, 7, 9, 22};
        int[] numbers = {3, 4, 5, 5, 5, 5};
        for (int i = 0; i < late.length; i++) {
            Check.fault(BASE + late[i], numbers[i], BASE.length() + places[i]);
            Check.faultAtMark(BASE + late[i] + "@?", 1);
            Check.faultAtMark(BASE + late[i] + "room@", 1);
            Check.faultAtMark(BASE + late[i] + Check.many("tool # a;", 5) + "@tool", 2);
            Check.faultAtMark(BASE + late[i] + Check.many(STEP, late[i].startsWith("step") ? 4 : 5) + "@" + STEP, 2);
            Check.faultAtMark(BASE + late[i] + "law m=((((((@(1)))))));", 2);
        }
    }

    private static void namesAndNumbersByPlace() {
        Check.says("likewise: 3 TWICE");
        Check.faultAtMark("room a;room @a;door z a 1;night 0;", 3);
        Check.faultAtMark("room a;door @z a 0;room a;", 4);
        Check.faultAtMark("night @0;room a;room a;door z a 1;", 5);
        Check.faultAtMark("room a;tool @a z;", 3);
        Check.faultAtMark("room a;task @a z 1000;", 3);
        Check.faultAtMark("room a;task t @z 1000;", 4);
        Check.faultAtMark("room a;task t a @1000;", 5);
        Check.faultAtMark("room a;man @a z left y 3;", 3);
        Check.faultAtMark("room a;man m @z left y 3;", 4);
        Check.faultAtMark("room a;man m a left @y 3;", 4);
        Check.faultAtMark(BASE + "step @z 0 100 100 100 with y undoes 9;", 4);
        Check.faultAtMark(BASE + "step t @0 100 100 100 with y undoes 9;", 5);
        Check.faultAtMark(BASE + "step t 1 @100 100 100 with y undoes 9;", 5);
        Check.faultAtMark(BASE + "step t 1 99 @100 100 with y undoes 9;", 5);
        Check.faultAtMark(BASE + "step t 1 99 99 @100 with y undoes 9;", 5);
        Check.faultAtMark(BASE + "step t 1 99 99 99 with @y undoes 9;", 4);
        Check.faultAtMark(BASE + "step t 1 99 99 99 with o undoes @9;", 5);
        Check.faultAtMark(BASE + "door @y y 0;", 4);
        Check.faultAtMark(BASE + "door a @y 0;", 4);
        Check.faultAtMark(BASE + "door a @a 0;", 5);
        Check.faultAtMark(BASE + "door a b @0;", 5);
        Check.faultAtMark(BASE + "law @z=1;night 0;", 4);
    }

    private static SleepWork lived() {
        SleepWork x = Check.house("room a;room b;door a b 2;door a b 1 shut;tool o a;task t b 9;step t 1 2 3 4 with o;step t 2 3 4 5 undoes 0;"
            + "task u a 5;man m a left t 1;man n b left t 0;law m=last;night 9;");
        x.night();
        x.give(0, 1);
        x.night();
        x.hold(2);
        x.tell(0, 0, 2);
        x.work(0, 1);
        x.bar(1, false);
        return x;
    }

    private static void faultChangesNothing() {
        Check.says("A text with a FAULT changes nothing but the tape");
        String[] texts = {"room z;?", Check.many("room #;", 9), "room z;room z;", "room z;door z y 1;", "room z;night 601;"};
        int[] places = {7, 56, 12, 14, 13};
        for (int i = 0; i < texts.length; i++) {
            SleepWork x = lived();
            List<Integer> ahead = Check.portrait(x);
            Check.feed(x, texts[i]);
            Check.due("read", x.read(), i + 1);
            List<Integer> behind = Check.portrait(x);
            Check.due("place", behind.set(0, -1), places[i]);
            Check.due("nothing changes: " + ahead + " is " + behind, ahead.equals(behind), true);
            Check.due("what is held is held", x.restore(2), true);
            Check.due("nights", x.count(6), 2);
            Check.due("what was done by hand since is not held", x.task(0, 2), lived().task(0, 2) + 1);
            x = lived();
            Check.feed(x, texts[i]);
            x.read();
            Check.due("nights can be undone", x.undo() && x.undo() && !x.undo(), true);
            Check.due("as it was told", x.task(0, 2), 9);
        }
    }

    private static void inPlaceOfTheOneAhead() {
        Check.says("else it is in place of the one ahead: no night has gone, no STEP is done, nothing can be undone, nothing is TOLD, SLOTS hold nothing.");
        SleepWork x = lived();
        Check.feed(x, "room a;room b;door a b 2;door a b 1;tool o b;task t b 9;step t 1 2 3 4;man m a;man n b left t 0;");
        Check.due("read", x.read(), 0);
        int[] due = {2, 2, 1, 1, 2, 480, 0, 0, 0, 0, 0, 0, 0};
        for (int what = 0; what < due.length; what++) {
            Check.due("count " + what, x.count(what), due[what]);
        }
        Check.due("no step is done", x.step(0, 0, 0), 0);
        Check.due("stuff", x.task(0, 2), 9);
        Check.due("one step now", x.step(0, 1, 0), -1);
        Check.due("without a tool", x.step(0, 0, 5), -2);
        Check.due("the tool lies", x.tool(0), 1);
        for (int man = 0; man < 2; man++) {
            Check.due("last night", x.man(man, 3), 0);
            Check.due("in all", x.man(man, 4), 0);
            Check.due("lay down", x.man(man, 5), -2);
        }
        Check.due("left nothing", x.man(0, 1), -2);
        Check.due("undo", x.undo(), false);
        for (int slot = 0; slot < 3; slot++) {
            Check.due("restore", x.restore(slot), false);
        }
        Check.due("no k", x.suspects(1), -1);
        Check.due("forget", x.forget(), 0);
        Check.due("the first told", x.tell(0, 0, 0), 0);
    }

    private static String fullText() {
        StringBuilder text = new StringBuilder(Check.many("room #;", 8) + Check.many("tool o# d;", 6));
        for (int i = 0; i < 12; i++) {
            text.append("door ").append((char) ('c' + i % 8)).append(' ').append((char) ('c' + (i + 1) % 8)).append(' ').append(i + 1)
                .append(i % 3 == 0 ? " shut;" : ";");
        }
        for (int i = 0; i < 6; i++) {
            char name = (char) ('c' + i);
            text.append("task t").append(name).append(' ').append(name).append(' ').append(90 + i).append(";step t").append(name).append(" 2 9 3 1;");
        }
        for (int i = 0; i < 6; i++) {
            char name = (char) ('c' + i);
            text.append("man m").append(name).append(' ').append(name).append(" left t").append(name).append(" 0;");
        }
        return text + "step tc 1 9 9 9;step tc 1 9 9 9 undoes 1;" + Check.many("law mc=last+1;", 8) + "night 77;";
    }

    /** Whatever was read ahead of a text, it is as if a new object had read it. */
    private static void asOnANewObject() {
        Check.says("else it is in place of the one ahead");
        String[] texts = {fullText(), "", "room a;room b;door a b 7;door a b 9 shut;tool o a;task t b 9;step t 1 2 3 4;man m a left t 0;night 20;",
            "room a;room b;door a b 5;task u a 3;task t b 9;step t 1 9 3 4;step t 2 2 3 4;man m a;man n a left t 0;" + Check.many("law n=1;", 8),
            "room a;room a;", "room a;night 0;", "room a;room b;door a b 3;?", Check.many("law z=1;", 8), "room a;room b;" + Check.many("door a b 4 shut;", 13)};
        int[] faults = {0, 0, 0, 0, 3, 5, 1, 4, 2};
        for (int first = 0; first < texts.length; first++) {
            for (int second = 0; second < texts.length; second++) {
                for (int third = 0; third < 4; third++) {
                    SleepWork x = new SleepWork();
                    int[] order = {first, second, third};
                    for (int i : order) {
                        x.gain();
                        x.way(0, 1);
                        Check.feed(x, texts[i]);
                        Check.due("read", x.read(), faults[i]);
                    }
                    List<Integer> got = Check.portrait(x);
                    List<Integer> due = Check.portrait(Check.house(texts[third]));
                    Check.due("text " + third + " behind " + first + " and " + second + ": " + got + " is " + due, got.equals(due), true);
                }
            }
        }
    }

    private static void waysAnew() {
        Check.says("else it is in place of the one ahead");
        SleepWork x = new SleepWork();
        // The doors that are shut are the same each time, the minutes and the rooms are not.
        String[] doors = {"door a b 7;", "door a b 5;", "", "door b c 5;", "door a c 2;door c b 1;"};
        int[] due = {7, 5, -2, -2, 3};
        for (int i = 0; i < doors.length; i++) {
            Check.feed(x, "room a;room b;room c;" + doors[i] + "task t b 99;step t 1 99 1 0;man m a left t 0;night 9;");
            Check.due("read", x.read(), 0);
            Check.due("way by " + doors[i], x.way(0, 1), due[i]);
            Check.due("gain by " + doors[i], x.gain(), due[i] < 0 ? 0 : 9 - due[i]);
        }
    }

    private static void lawsHaveSpaceAnew() {
        Check.says("else it is in place of the one ahead");
        SleepWork x = new SleepWork();
        for (int i = 0; i < 8; i++) {
            Check.feed(x, "room a;task t a 9;step t 1 9 1 0;step t 1 9 5 0;man m a left t 0;law m=1" + "+0".repeat(150) + ";night 1;");
            Check.due("read", x.read(), 0);
            Check.due("the law is there", x.gain(), 5);
        }
    }
}
