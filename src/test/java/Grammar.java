import java.util.List;

/** Puts each token where another one is due, and ends texts too early: all of it is refused. */
final class Grammar {
    /** readText() or runScript(). */
    interface Reading {
        int of(BambooBlind blind);
    }

    private static final String[] TOKENS = {"high", "coats", "slat", "box", "pull", "turn", "tie",
        "free", "paint", "dab", "swap", "repeat", "left", "right", "on", "abcdefgh", "abcdefghi",
        "1", "01", "001", "0001", "1000", ";", "(", ")", "#", "-1", "\0", "\t", "Left"};

    private final List<String> firstWords;
    private final Reading reading;

    Grammar(List<String> firstWords, Reading reading) {
        this.firstWords = firstWords;
        this.reading = reading;
    }

    /**
     * Statements of tokens with a space between them. What is due at each token is told likewise:
     * w a first word, n a number, s a side, or a single character; several of them side by side.
     */
    void check(String statements, String due) {
        String[] tokens = statements.split(" ");
        String[] kinds = due.split(" ");
        Check.same("the kinds of " + statements, kinds.length, tokens.length);
        fine(statements);
        for (int at = 0; at < tokens.length; at++) {
            String before = joined(tokens, 0, at);
            String behind = joined(tokens, at + 1, tokens.length);
            for (String other : TOKENS) {
                if (kinds[at].indexOf(kindOf(other)) < 0) {
                    error(before + other + " " + behind, 1, before.length());
                }
            }
            boolean isWhole = at == 0 || kinds[at].equals("w") && tokens[at - 1].equals(";");
            if (!isWhole) {
                error(before.trim(), 1, before.length() - 1);
                error(before + "\n ", 1, before.length() + 2);
            }
        }
    }

    private static String joined(String[] tokens, int from, int to) {
        StringBuilder text = new StringBuilder();
        for (int i = from; i < to; i++) {
            text.append(tokens[i]).append(' ');
        }
        return text.toString();
    }

    private char kindOf(String token) {
        if (firstWords.contains(token)) {
            return 'w';
        }
        if (token.matches("[0-9]{1,3}")) {
            return 'n';
        }
        if (token.equals("left") || token.equals("right")) {
            return 's';
        }
        return token.matches("[;()]") ? token.charAt(0) : 'x';
    }

    /** With another letter, one less or one more, a word of the statement is no word of it. */
    void otherLetters(String statement, String word) {
        int from = statement.indexOf(word);
        int behind = from + word.length();
        fine(statement);
        for (int i = from; i < behind; i++) {
            char letter = statement.charAt(i) == 'q' ? 'z' : 'q';
            error(statement.substring(0, i) + letter + statement.substring(i + 1), 1, from);
            error(statement.substring(0, i) + "A" + statement.substring(i + 1), 1, from);
        }
        error(statement.substring(0, behind - 1) + statement.substring(behind), 1, from);
        error(statement.substring(0, from) + statement.substring(from + 1), 1, from);
        error(statement.substring(0, behind) + "s" + statement.substring(behind), 1, from);
        error(statement.substring(0, from) + "s" + statement.substring(from), 1, from);
    }

    /** The text has no error, whatever it does. */
    void fine(String text) {
        BambooBlind blind = new BambooBlind();
        Blinds.feed(blind, text);
        Check.same("text " + text, Check.thrownBy(() -> reading.of(blind)), "nothing");
        Check.same("no code of " + text, blind.errorCode(), 0);
        Check.same("no position of " + text, blind.errorPosition(), BambooBlind.NONE);
    }

    void error(String text, int code, int position) {
        BambooBlind blind = new BambooBlind();
        Blinds.feed(blind, text);
        Check.noValue("text " + text, () -> reading.of(blind));
        Check.same("code of " + text, blind.errorCode(), code);
        Check.same("position of " + text, blind.errorPosition(), position);
        Check.same("the buffer behind " + text, State.bufferLength(blind), 0);
    }
}
