import java.io.IOException;
import java.nio.file.Files;
import java.nio.file.Path;
import java.util.ArrayList;
import java.util.LinkedHashMap;
import java.util.List;
import java.util.Map;
import java.util.Random;
import java.util.regex.Matcher;
import java.util.regex.Pattern;

/**
 * Texts against the grammar as it stands in the document: its rules are taken from there, and tell with which tokens
 * a text goes on. Nothing of how SleepWork or PlainModel read a text is used.
 */
final class GrammarTest {
    private static final int WALKS = 6000;
    private static final int LONGEST = 120;
    private static final int MOST_PREFIXES = 4000;

    private GrammarTest() { }

    /** A part of a rule: a token (kind T), a rule (R), one of several (A), one behind the other (S), maybe (O), again and again (M). */
    private record Part(char kind, String name, List<Part> parts) { }

    /** What is still to come: a part, and what is behind it. */
    private record Rest(Part part, Rest behind) { }

    private static final Map<String, Part> RULES = new LinkedHashMap<>();
    private static final List<String> TOKENS = new ArrayList<>();

    private static String[] pieces;
    private static int at;

    public static void main(String[] args) throws IOException {
        takeRules();
        Check.due("six rules", RULES.size(), 6);
        Check.due("words, signs, NAME and INT", TOKENS.size(), 21 + 9 + 2);
        everyShortBeginning();
        longWalks();
        Check.end();
    }

    private static void takeRules() throws IOException {
        String document = Files.readString(Path.of("../shared/DOC.md"));
        int from = document.indexOf("text: {TELL}.");
        int till = document.indexOf("ROOMS, 8 at most", from);
        Matcher piece = Pattern.compile("'[^']+'|[A-Za-z]+:?|[{}\\[\\]()|.]").matcher(document.substring(from, till));
        List<String> all = new ArrayList<>();
        while (piece.find()) {
            all.add(piece.group());
        }
        pieces = all.toArray(new String[0]);
        at = 0;
        while (at < pieces.length) {
            String name = pieces[at++].replace(":", "");
            RULES.put(name, takeChoice());
            Check.due("the rule " + name + " ends", pieces[at++].equals("."), true);
        }
        for (String one : pieces) {
            boolean isToken = one.startsWith("'") || one.equals("NAME") || one.equals("INT");
            String token = one.replace("'", "");
            if (isToken && !TOKENS.contains(token)) {
                TOKENS.add(token);
            }
        }
    }

    private static Part takeChoice() {
        List<Part> ways = new ArrayList<>();
        ways.add(takeRow());
        while (pieces[at].equals("|")) {
            at++;
            ways.add(takeRow());
        }
        return new Part('A', "", ways);
    }

    private static Part takeRow() {
        List<Part> row = new ArrayList<>();
        while (!pieces[at].matches("[.|)}\\]]")) {
            row.add(takeOne());
        }
        return new Part('S', "", row);
    }

    private static Part takeOne() {
        String piece = pieces[at++];
        if (piece.matches("[{(\\[]")) {
            Part inner = takeChoice();
            at++;
            return piece.equals("{") ? new Part('M', "", List.of(inner)) : piece.equals("[") ? new Part('O', "", List.of(inner)) : inner;
        }
        boolean isToken = piece.startsWith("'") || piece.equals("NAME") || piece.equals("INT");
        return new Part(isToken ? 'T' : 'R', piece.replace("'", ""), List.of());
    }

    /** All the tokens with which it goes on, each with what is to come behind it; the key "" if it may end. */
    private static void goOn(Rest rest, Map<String, List<Rest>> next) {
        if (rest == null) {
            next.computeIfAbsent("", k -> new ArrayList<>());
            return;
        }
        Part part = rest.part;
        switch (part.kind) {
            case 'T':
                next.computeIfAbsent(part.name, k -> new ArrayList<>()).add(rest.behind);
                break;
            case 'R':
                goOn(new Rest(RULES.get(part.name), rest.behind), next);
                break;
            case 'A':
                for (Part way : part.parts) {
                    goOn(new Rest(way, rest.behind), next);
                }
                break;
            case 'S':
                Rest all = rest.behind;
                for (int i = part.parts.size() - 1; i >= 0; i--) {
                    all = new Rest(part.parts.get(i), all);
                }
                goOn(all, next);
                break;
            case 'O':
                goOn(rest.behind, next);
                goOn(new Rest(part.parts.get(0), rest.behind), next);
                break;
            default:
                goOn(rest.behind, next);
                goOn(new Rest(part.parts.get(0), rest), next);
                break;
        }
    }

    private static Map<String, List<Rest>> allNext(List<Rest> rests) {
        Map<String, List<Rest>> next = new LinkedHashMap<>();
        for (Rest rest : rests) {
            goOn(rest, next);
        }
        return next;
    }

    private static List<Rest> beginning() {
        List<Rest> rests = new ArrayList<>();
        rests.add(new Rest(RULES.get("text"), null));
        return rests;
    }

    /** How a token is written, at a place in a text: no two names or numbers alike in a short text. */
    private static String written(String token, int index) {
        if (token.equals("NAME")) {
            return "n" + (char) ('a' + index % 26) + (char) ('a' + index / 26 % 26);
        }
        return token.equals("INT") ? String.valueOf(1 + index % 60) : token;
    }

    private static String textOf(List<String> tokens) {
        StringBuilder text = new StringBuilder();
        for (int i = 0; i < tokens.size(); i++) {
            text.append(i == 0 ? "" : " ").append(written(tokens.get(i), i));
        }
        return text.toString();
    }

    /** Each beginning of a few tokens, and of a law, with each token behind it, and with none. */
    private static void everyShortBeginning() {
        List<List<String>> beginnings = new ArrayList<>();
        beginnings.add(new ArrayList<>());
        for (int i = 0; i < beginnings.size(); i++) {
            List<String> tokens = beginnings.get(i);
            Map<String, List<Rest>> next = nextOf(tokens);
            expectEnd(tokens, next.containsKey(""));
            for (String token : TOKENS) {
                List<String> more = new ArrayList<>(tokens);
                more.add(token);
                if (!next.containsKey(token)) {
                    expectSyntax(more);
                } else if (beginnings.size() < MOST_PREFIXES) {
                    beginnings.add(more);
                }
            }
        }
    }

    private static Map<String, List<Rest>> nextOf(List<String> tokens) {
        List<Rest> rests = beginning();
        for (String token : tokens) {
            rests = allNext(rests).get(token);
        }
        return allNext(rests);
    }

    /** The last token is one with which no text goes on. */
    private static void expectSyntax(List<String> tokens) {
        String last = written(tokens.get(tokens.size() - 1), tokens.size() - 1);
        String text = textOf(tokens);
        expect(text, text.length() - last.length());
    }

    private static void expectEnd(List<String> tokens, boolean mayEnd) {
        String text = textOf(tokens);
        expect(text, mayEnd ? -1 : text.length());
    }

    private static void expect(String text, int place) {
        SleepWork x = new SleepWork();
        Check.feed(x, text);
        int fault = x.read();
        if (place >= 0) {
            Check.due("read() of " + text, fault, 1);
            Check.due("place() of " + text, x.place(), place);
        } else {
            Check.due("no fault of form in " + text, fault != 1 && fault != 2, true);
        }
    }

    /** Longer texts by chance, always the same: each ends, or has a token with which no text goes on. */
    private static void longWalks() {
        Random random = new Random(9);
        for (int walk = 0; walk < WALKS; walk++) {
            List<String> tokens = new ArrayList<>();
            List<Rest> rests = beginning();
            boolean more = true;
            while (more) {
                Map<String, List<Rest>> next = allNext(rests);
                List<String> goes = new ArrayList<>(next.keySet());
                goes.remove("");
                String token = random.nextInt(40) == 0 ? TOKENS.get(random.nextInt(TOKENS.size())) : goes.get(random.nextInt(goes.size()));
                if (tokens.size() >= LONGEST || random.nextInt(40) == 0 || isFull(tokens, token)) {
                    expectEnd(tokens, next.containsKey(""));
                    more = false;
                } else if (!next.containsKey(token)) {
                    tokens.add(token);
                    expectSyntax(tokens);
                    more = false;
                } else {
                    tokens.add(token);
                    rests = next.get(token);
                }
            }
        }
    }

    /** Whether a token might be one too many: a text without room is not what is looked at here. */
    private static boolean isFull(List<String> tokens, String token) {
        int most = switch (token) {
            case "room", "law" -> 8;
            case "door" -> 12;
            case "tool", "task", "step", "man" -> 6;
            case "(" -> 6;
            case "if" -> 4;
            default -> LONGEST + 1;
        };
        return tokens.stream().filter(token::equals).count() >= most;
    }
}
