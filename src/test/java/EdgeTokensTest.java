import java.util.List;

/** Edges of the tape, of tokens and of a text's form, sentence by sentence: promises 2 to 5, part I of the terms. */
public final class EdgeTokensTest {
    private static final String BLANKS = "\t\n\r ";
    private static final String[] WORDS = ("room door tool task step man law night shut with undoes left if then else "
        + "last done steps minute stuff times").split(" ");
    private static final int FAR = 1000000000;

    private EdgeTokensTest() { }

    public static void main(String[] args) {
        bytesOfAText();
        endOfAText();
        orderOfBytes();
        feedTooMuch();
        backTooMuch();
        readEmpties();
        placeStays();
        blanks();
        longestTokens();
        letters();
        lettersTooMany();
        wordsAreNoNames();
        digits();
        signs();
        everyPieceOfAText();
        everyNextToken();
        noTells();
        optionalParts();
        Check.end();
    }

    private static String padded(String head, int length, String tail) {
        return head + " ".repeat(length - head.length() - tail.length()) + tail;
    }

    private static void bytesOfAText() {
        Check.says("A TEXT has 2,000 bytes at most.");
        SleepWork x = Check.house(padded("room a;", 2000, "room b;"));
        Check.due("both are read", x.count(0), 2);
        Check.fault(padded("room a;", 2000, "?"), 1, 1999);
        x = Check.house(padded("room a;", 1999, "room b;"));
        Check.due("both are read", x.count(0), 2);
    }

    private static void endOfAText() {
        Check.says("(a byte; the text's end: its length)");
        Check.fault(padded("room a;", 2000, "room b"), 1, 2000);
        Check.fault(padded("room a", 2000, ""), 1, 2000);
        Check.fault("room a", 1, 6);
        Check.fault("room a ", 1, 7);
        Check.fault("room a\t\n\r ", 1, 10);
        Check.fault("?", 1, 0);
        Check.fault(padded("room a;", 2000, "night 1"), 1, 2000);
        // What went back is no more part of it, whatever it was.
        String[] texts = {"night 1", "room a", "room a;room", "room a ", "night "};
        String[] gone = {"1;", "b;", "s;", "  ;", "9;"};
        for (int i = 0; i < texts.length; i++) {
            SleepWork x = new SleepWork();
            Check.feed(x, texts[i] + gone[i]);
            x.back(gone[i].length());
            Check.due("read", x.read(), 1);
            Check.due("the end of " + texts[i], x.place(), texts[i].length());
        }
    }

    private static void orderOfBytes() {
        Check.says("Twenty bytes, the highest of a first, come behind the tape: how many it has.");
        for (int odd : new int[] {'?', 0, 127, 128, 255}) {
            for (int at = 0; at < 20; at++) {
                SleepWork x = new SleepWork();
                int[] w = {0x20202020, 0x20202020, 0x20202020, 0x20202020, 0x20202020};
                Check.due("feed", x.feed(w[0], w[1], w[2], w[3], w[4]), 20);
                int shift = 24 - at % 4 * 8;
                w[at / 4] = w[at / 4] & ~(255 << shift) | odd << shift;
                Check.due("feed behind it", x.feed(w[0], w[1], w[2], w[3], w[4]), 40);
                Check.due("read", x.read(), 1);
                Check.due("the byte " + odd, x.place(), 20 + at);
            }
        }
    }

    private static void feedTooMuch() {
        Check.says("NONE, and nothing comes, if it would have more than 2,000.");
        for (int free = 0; free <= 21; free++) {
            SleepWork x = new SleepWork();
            Check.feed(x, padded("room a;", 2000 - free, ""));
            Check.due("feed with free bytes " + free, x.feed(-1, -1, -1, -1, -1), free < 20 ? -1 : 2020 - free);
            Check.due("bytes", x.count(9), free < 20 ? 2000 - free : 2020 - free);
            Check.due("read", x.read(), free < 20 ? 0 : 1);
            Check.due("place", x.place(), free < 20 ? -1 : 2000 - free);
        }
    }

    private static void backTooMuch() {
        Check.says("The last n bytes of the tape go: how many it has. NONE, and nothing goes, if it has not so many, or n is below 0.");
        SleepWork x = new SleepWork();
        Check.due("back of none", x.back(0), 0);
        Check.due("back of none", x.back(1), -1);
        Check.due("back below 0 of none", x.back(-1), -1);
        Check.feed(x, "room a; room b;?????");
        for (int n : new int[] {21, 22, -1, -2, -20, FAR, -FAR, Integer.MAX_VALUE, Integer.MIN_VALUE}) {
            Check.due("back " + n, x.back(n), -1);
            Check.due("nothing goes", x.count(9), 20);
        }
        Check.due("back", x.back(0), 20);
        Check.due("the last ones go", x.back(5), 15);
        Check.due("not so many", x.back(16), -1);
        Check.due("read", x.read(), 0);
        Check.due("rooms", x.count(0), 2);
        Check.feed(x, "????????????????????");
        Check.due("all go", x.back(20), 0);
        Check.feed(x, "room a;");
        Check.due("read", x.read(), 0);
        Check.feed(x, padded("", 2000, ""));
        Check.due("back of a full one", x.back(2001), -1);
        Check.due("back of a full one", x.back(2000), 0);
    }

    private static void readEmpties() {
        Check.says("The tape, which is empty then, is read: 0, or the number of its FAULT.");
        SleepWork x = new SleepWork();
        Check.feed(x, "room a;?");
        Check.due("read", x.read(), 1);
        Check.due("empty", x.count(9), 0);
        Check.due("nothing to go back", x.back(1), -1);
        Check.feed(x, "room a;");
        Check.due("read", x.read(), 0);
        Check.due("empty", x.count(9), 0);
        Check.due("rooms", x.count(0), 1);
        Check.due("an empty one is a text", x.read(), 0);
        Check.due("without rooms", x.count(0), 0);
    }

    private static void placeStays() {
        Check.says("The byte of the latest read()'s FAULT; NONE without.");
        SleepWork x = new SleepWork();
        Check.due("none was read", x.place(), -1);
        Check.feed(x, "?");
        Check.due("not read yet", x.place(), -1);
        x.read();
        Check.due("the first byte", x.place(), 0);
        Check.feed(x, "  ?");
        Check.due("of the latest read", x.place(), 0);
        x.back(0);
        x.night();
        x.hold(0);
        x.undo();
        x.restore(0);
        Check.due("of the latest read", x.place(), 0);
        x.read();
        Check.due("the third byte", x.place(), 2);
        x.read();
        Check.due("none without a fault", x.place(), -1);
    }

    private static void blanks() {
        Check.says("with blanks (9, 10, 13, 32) between or not");
        for (int b = 0; b < 256; b++) {
            String text = "room" + (char) b + "a;";
            if (BLANKS.indexOf(b) >= 0) {
                Check.house(text);
                Check.house((char) b + "room" + (char) b + (char) b + "a" + (char) b + ";" + (char) b);
            } else {
                // A letter makes one long name of it, which no text begins with.
                Check.fault(text, 1, b >= 'a' && b <= 'z' ? 0 : 4);
            }
        }
        SleepWork x = Check.house("room a;room b;door a b7shut;task t a9;step t1 2 3 4;step t1 2 3 4undoes0;"
            + "man m a left t1;law m=if 1<2then 3else 4;night5;");
        Check.due("shut", x.count(7), 1);
        Check.due("undoes", x.step(0, 1, 6), 0);
        Check.due("night", x.count(5), 5);
    }

    private static void longestTokens() {
        Check.says("TOKENS, the longest that can be");
        Check.fault("rooma;", 1, 0);
        Check.fault("room a;roomb;", 1, 7);
        Check.due("one number", Check.house("night 12;").count(5), 12);
        Check.fault("night 1 2;", 1, 8);
        Check.fault("room a;room b;door ab 1;", 1, 22);
        Check.fault("room a;room b;door a b 1 shutshut;", 1, 25);
        Check.house("room rooma;");
        Check.house("room stepsx;");
        Check.fault("room a b;", 1, 7);
    }

    private static void letters() {
        Check.says("NAMES (letters a .. z, 8 at most, none of the words in quotes)");
        for (int b = 0; b < 256; b++) {
            String text = "room " + (char) b + ";";
            if (b >= 'a' && b <= 'z') {
                Check.house(text);
            } else if (BLANKS.indexOf(b) >= 0) {
                Check.fault(text, 1, 6);
            } else {
                Check.fault(text, 1, 5);
            }
        }
        SleepWork x = Check.house("room abcdefgh;room abcdefgi;room zbcdefgh;room abcdefg;room a;room h;room zzzzzzzz;"
            + "room aaaaaaaa;door abcdefgh abcdefgi 5;door zzzzzzzz aaaaaaaa 7;");
        Check.due("eight letters, all of them looked at", x.way(0, 1), 5);
        Check.due("eight letters, all of them looked at", x.way(6, 7), 7);
        Check.due("no other", x.way(0, 2), -2);
    }

    private static void lettersTooMany() {
        Check.says("A longer one, all else, is no TOKEN.");
        Check.house("room abcdefgh;");
        Check.fault("room abcdefghi;", 1, 5);
        Check.fault("room a;room b;door a bbbbbbbbb 1;", 1, 21);
        Check.fault("abcdefghroom a;", 1, 0);
        Check.fault("aaaaaaaaaroom a;", 1, 0);
        Check.fault("room " + "a".repeat(1994) + ";", 1, 5);
        Check.fault("room a;" + "roomroom".repeat(4) + " b;", 1, 7);
        Check.house("night 0480;");
        Check.fault("night 00480;", 1, 6);
        Check.fault("night " + "0".repeat(1990) + "480;", 1, 6);
        Check.fault("night 4294967297;", 1, 6);
        Check.fault("night 00001", 1, 6);
        Check.due("four digits", Check.house("night 0001;").count(5), 1);
    }

    private static void wordsAreNoNames() {
        Check.says("none of the words in quotes");
        Check.due("words", WORDS.length, 21);
        for (String word : WORDS) {
            Check.fault("room " + word + ";", 1, 5);
            for (String name : new String[] {word + "x", "x" + word, word.substring(0, word.length() - 1)}) {
                if (!List.of(WORDS).contains(name)) {
                    SleepWork x = Check.house("room " + name + ";room q;door " + name + " q 3;");
                    Check.due("a room by name " + name, x.way(0, 1), 3);
                }
            }
        }
        Check.fault("room steps;", 1, 5);
        Check.house("room e;");
    }

    private static void digits() {
        Check.says("INTS (1 to 4 digits)");
        for (int n : new int[] {1, 9, 10, 99, 100, 599, 600}) {
            Check.due("night " + n, Check.house("night " + n + ";").count(5), n);
        }
        Check.fault("night ;", 1, 6);
        for (int b = 0; b < 256; b++) {
            String text = "night 1" + (char) b + "1;";
            if (b >= '0' && b <= '9') {
                Check.due("night", Check.house(text).count(5), 101 + 10 * (b - '0'));
            } else {
                Check.fault(text, 1, BLANKS.indexOf(b) >= 0 || b == ';' ? 8 : 7);
            }
        }
        Check.fault("night -1;", 1, 6);
        Check.fault("night +1;", 1, 6);
    }

    private static void signs() {
        Check.says("SIGNS ; = + - * / < ( )");
        String head = "room a;man m a;law m=1";
        for (int b = 0; b < 256; b++) {
            String text = head + (char) b + "1;";
            if (b > 0 && "+-*/0123456789".indexOf(b) >= 0) {
                Check.house(text);
            } else {
                Check.fault(text, 1, head.length() + (BLANKS.indexOf(b) >= 0 || b == ';' ? 1 : 0));
            }
        }
        // In place of each sign any other byte is wrong.
        String whole = "room a;man m a;law m=if(1)<2 then 3 else 4;";
        for (int i = 0; i < whole.length(); i++) {
            char due = whole.charAt(i);
            for (int b = 0; b < 256 && ";=<()".indexOf(due) >= 0; b++) {
                boolean glued = b >= 'a' && b <= 'z' || b >= '0' && b <= '9';
                if (b != due && !glued && BLANKS.indexOf(b) < 0 && "+-*/<".indexOf(b) < 0) {
                    Check.fault(whole.substring(0, i) + (char) b + whole.substring(i + 1), 1, i);
                }
            }
        }
    }

    /** Cut behind any token: the end is wrong but behind a sign ; that ends what is told. */
    private static void everyPieceOfAText() {
        Check.says("1 SYNTAX: a TOKEN, or what is none, with which no text goes on.");
        String[] tokens = ("room a ; room b ; door a b 1 ; door a b 2 shut ; tool o a ; task t a 9 ; step t 1 2 3 4 ; step t 1 2 3 4 with o ; "
            + "step t 1 2 3 4 undoes 1 ; step t 1 2 3 4 with o undoes 0 ; man m a ; man n b left t 3 ; law m = last ; "
            + "law n = if ( done + 1 ) * 2 < steps - minute / 3 then stuff else if 1 < 2 then times else ( ( 5 ) ) ; night 7 ;").split(" ");
        String text = "";
        Check.house(text);
        for (String token : tokens) {
            Check.fault(text + "?", 1, text.length());
            Check.fault(text + ".", 1, text.length());
            Check.fault(text + "abcdefghi", 1, text.length());
            Check.fault(text + "12345", 1, text.length());
            text = text + token + " ";
            if (token.equals(";")) {
                Check.house(text);
                Check.fault(text + ";", 1, text.length());
                Check.fault(text + "x", 1, text.length());
                Check.fault(text + "1", 1, text.length());
            } else {
                Check.fault(text, 1, text.length());
            }
        }
    }

    /** Behind each beginning of a text: the tokens with which texts go on, n being a name and 1 a number; all others are wrong. */
    private static void everyNextToken() {
        Check.says("1 SYNTAX: a TOKEN, or what is none, with which no text goes on.");
        String tells = "room door tool task step man law night";
        String units = "1 ( last done steps minute stuff times";
        String[][] table = {
            {"", tells}, {"room", "n"}, {"room a", ";"}, {"room a ;", tells},
            {"door", "n"}, {"door a", "n"}, {"door a b", "1"}, {"door a b 1", "shut ;"}, {"door a b 1 shut", ";"}, {"door a b 1 ;", tells},
            {"door a b 1 shut ;", tells}, {"tool", "n"}, {"tool o", "n"}, {"tool o a", ";"}, {"tool o a ;", tells},
            {"task", "n"}, {"task t", "n"}, {"task t a", "1"}, {"task t a 1", ";"}, {"task t a 1 ;", tells},
            {"step", "n"}, {"step t", "1"}, {"step t 1", "1"}, {"step t 1 2", "1"}, {"step t 1 2 3", "1"}, {"step t 1 2 3 4", "with undoes ;"},
            {"step t 1 2 3 4 ;", tells}, {"step t 1 2 3 4 with", "n"}, {"step t 1 2 3 4 with o", "undoes ;"}, {"step t 1 2 3 4 with o ;", tells},
            {"step t 1 2 3 4 undoes", "1"}, {"step t 1 2 3 4 undoes 0", ";"}, {"step t 1 2 3 4 undoes 0 ;", tells},
            {"step t 1 2 3 4 with o undoes", "1"}, {"step t 1 2 3 4 with o undoes 0", ";"}, {"step t 1 2 3 4 with o undoes 0 ;", tells},
            {"man", "n"}, {"man m", "n"}, {"man m a", "left ;"}, {"man m a ;", tells}, {"man m a left", "n"}, {"man m a left t", "1"},
            {"man m a left t 0", ";"}, {"man m a left t 0 ;", tells}, {"night", "1"}, {"night 1", ";"}, {"night 1 ;", tells},
            {"law", "n"}, {"law m", "="}, {"law m =", "if " + units}, {"law m = 1", "+ - * / ;"}, {"law m = 1 ;", tells},
            {"law m = (", units}, {"law m = ( 1", "+ - * / )"}, {"law m = ( ( 1 )", "+ - * / )"}, {"law m = ( 1 )", "+ - * / ;"},
            {"law m = 1 +", units}, {"law m = 1 -", units}, {"law m = 1 *", units}, {"law m = 1 /", units}, {"law m = ( 1 /", units},
            {"law m = 1 + 2", "+ - * / ;"}, {"law m = 1 - 2", "+ - * / ;"}, {"law m = 1 * 2", "+ - * / ;"}, {"law m = 1 / 2", "+ - * / ;"},
            {"law m = if", units}, {"law m = if 1", "+ - * / <"}, {"law m = if ( 1", "+ - * / )"}, {"law m = if ( 1 )", "+ - * / <"},
            {"law m = if 1 <", units}, {"law m = if 1 < 2", "+ - * / then"}, {"law m = if 1 < ( 2 )", "+ - * / then"},
            {"law m = if 1 < 2 then", units}, {"law m = if 1 < 2 then 3", "+ - * / else"}, {"law m = if 1 < 2 then ( 3 )", "+ - * / else"},
            {"law m = if 1 < 2 then 3 else", "if " + units}, {"law m = if 1 < 2 then 3 else 4", "+ - * / ;"},
            {"law m = if 1 < 2 then 3 else if", units}, {"law m = if 1 < 2 then 3 else 4 ;", tells},
        };
        for (String[] row : table) {
            nextTokens(row[0], List.of(row[1].split(" ")));
        }
        for (String var : new String[] {"last", "done", "steps", "minute", "stuff", "times", "0", "9999"}) {
            nextTokens("law m = " + var, List.of("+", "-", "*", "/", ";"));
            nextTokens("law m = if " + var, List.of("+", "-", "*", "/", "<"));
        }
    }

    private static void nextTokens(String beginning, List<String> goOn) {
        String all = String.join(" ", WORDS) + " n 1 ; = + - * / < ( ) . ? > , nnnnnnnnn 00001 A";
        String text = beginning.isEmpty() ? "" : beginning + " ";
        for (String token : all.split(" ")) {
            if (!goOn.contains(token)) {
                Check.fault(text + token, 1, text.length());
                Check.fault(text + token + " ;", 1, text.length());
            } else if (!token.equals(";")) {
                Check.fault(text + token, 1, text.length() + token.length());
                Check.fault(text + token + " ?", 1, text.length() + token.length() + 1);
            } else {
                // Whole in form: what is wrong with it now is a name or a number.
                SleepWork x = new SleepWork();
                Check.feed(x, text + token);
                Check.due("a fault of form or space in " + text + token, x.read() == 1 || x.count(9) != 0, false);
            }
        }
    }

    private static void noTells() {
        Check.says("text: {TELL}.");
        SleepWork x = Check.house("");
        Check.due("minutes", x.count(5), 480);
        for (int what = 0; what <= 12; what++) {
            Check.due("count " + what, x.count(what), what == 5 ? 480 : 0);
        }
        Check.house(" \t\r\n");
        Check.house(padded("", 2000, ""));
    }

    private static void optionalParts() {
        Check.says("'step' NAME INT INT INT INT ['with' NAME] ['undoes' INT] ';'");
        String base = "room a;room b;tool o a;tool p b;task t a 9;step t 1 2 3 4;";
        int[][] due = {{-2, -2}, {1, -2}, {-2, 0}, {1, 0}};
        String[] parts = {"", "with p", "undoes 0", "with p undoes 0"};
        for (int i = 0; i < parts.length; i++) {
            SleepWork x = Check.house(base + "step t 5 6 7 8 " + parts[i] + ";");
            int[] all = {0, 5, 6, 7, 8, due[i][0], due[i][1]};
            for (int what = 0; what < 7; what++) {
                Check.due(parts[i] + " " + what, x.step(0, 1, what), all[what]);
            }
        }
        Check.faultAtMark(base + "step t 5 6 7 8 undoes 0 @with p;", 1);
        Check.faultAtMark(base + "step t 5 6 7 8 with p @with p;", 1);
        Check.faultAtMark(base + "step t 5 6 7 8 undoes 0 @undoes 0;", 1);
        Check.faultAtMark(base + "step t 5 6 7 8 @9;", 1);
        Check.faultAtMark(base + "step t 5 6 7@;", 1);
        Check.says("'door' NAME NAME INT ['shut'] ';'");
        Check.due("open", Check.house(base + "door a b 1;").count(7), 0);
        Check.due("shut", Check.house(base + "door a b 1 shut;").count(7), 1);
        Check.faultAtMark(base + "door a b 1 shut @shut;", 1);
        Check.says("'man' NAME NAME ['left' NAME INT] ';'");
        Check.due("nothing", Check.house(base + "man m a;").man(0, 1), -2);
        Check.due("left", Check.house(base + "man m a left t 0;").man(0, 2), 0);
        Check.faultAtMark(base + "man m a left t 0 @left t 0;", 1);
        Check.says("'law' NAME '=' {'if' E '<' E 'then' E 'else'} E ';'");
        Check.house(base + "man m a;law m=1;");
        Check.house(base + "man m a;law m=if 1<2 then 3 else 4;");
        Check.faultAtMark(base + "man m a;law m=if 1<2 then @if 1<2 then 3 else 4 else 5;", 1);
        Check.faultAtMark(base + "man m a;law m=(@if 1<2 then 3 else 4);", 1);
        Check.faultAtMark(base + "man m a;law m=if 1<2 then 3@;", 1);
        Check.faultAtMark(base + "man m a;law m=1 @if 1<2 then 3 else 4;", 1);
        Check.faultAtMark(base + "man m a;law m=1@<2;", 1);
        Check.faultAtMark(base + "man m a;law m=@-1;", 1);
        Check.faultAtMark(base + "man m a;law m=(@);", 1);
        Check.faultAtMark(base + "man m a;law m=@a;", 1);
    }
}
