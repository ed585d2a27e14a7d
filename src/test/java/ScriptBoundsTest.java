import java.util.List;

/**
 * The bounds of scripts and of their errors: "Scripts" of the terms, and promise 5. The sentence
 * that a test stands for is told above it.
 */
public final class ScriptBoundsTest {
    private static final int NONE = BambooBlind.NONE;
    private static final Grammar SCRIPTS = new Grammar(
            List.of("pull", "turn", "tie", "free", "paint", "dab", "swap", "repeat"),
            BambooBlind::runScript);

    // The second slat is the last one; a face bears two coats.
    private static final String TEXT = "high 2;coats 2;slat 3;slat 2 right 1;box left 0 0 9 9 3;";

    private ScriptBoundsTest() {
    }

    public static void main(String[] args) {
        emptyScripts();
        fullScript();
        emptiesTheBuffer();
        refusedWithinRepeats();
        refused();
        answersTheCommandsDone();
        pullCommand();
        turnCommand();
        tieAndFreeCommands();
        paintCommand();
        dabCommand();
        swapCommand();
        withoutSlats();
        numbers();
        timesOfRepeat();
        emptyRepeat();
        endsAsAWhole();
        commandsBeforeStayDone();
        fortyCommands();
        fortyCommandsInRepeats();
        refusedAtTheFortyFirst();
        grammarOfScripts();
        runsOfLettersAndDigits();
        everyByte();
        firstErrorOfSeveral();
        lowestCodeOfSeveral();
        thirdRepeat();
        thirtyFirstCommand();
        Check.end();
    }

    // "script = { command ";" }": also none.
    private static void emptyScripts() {
        String[] scripts = {"", " ", "\n", " \n ", " ".repeat(600)};
        for (String script : scripts) {
            BambooBlind blind = Blinds.of(TEXT);
            String before = Blinds.all(blind);
            Check.same("commands of no script", Blinds.run(blind, script), 0);
            Check.same("nothing by no script", Blinds.all(blind), before);
            Check.same("no code of no script", blind.errorCode(), 0);
            Check.same("no position of no script", blind.errorPosition(), NONE);
        }
        Check.same("a new object", new BambooBlind().runScript(), 0);
    }

    // Promise 5: "Reads the whole buffer as a script"
    private static void fullScript() {
        BambooBlind blind = Blinds.of(TEXT);
        Blinds.feed(blind, "swap 0;" + " ".repeat(586) + "swap 1;");
        Check.same("bytes of a full script", blind.truncate(600), 600);
        Check.same("commands of a full script", blind.runScript(), 2);
        Check.same("the last one is done", Blinds.face(blind, 1, true), "33/33");
        SCRIPTS.error(" ".repeat(594) + "swap 0", 1, 600);
        SCRIPTS.error(" ".repeat(599) + "#", 1, 599);
    }

    // Promise 5: "empties the buffer, also if the text has an error"
    private static void emptiesTheBuffer() {
        BambooBlind blind = Blinds.of(TEXT);
        Check.same("a script", Blinds.run(blind, "swap 0;"), 1);
        Check.same("empty behind a script", State.bufferLength(blind), 0);
        Blinds.feed(blind, "swap 0;swap");
        Check.noValue("a script with an error", blind::runScript);
        Check.same("empty behind an error", State.bufferLength(blind), 0);
        Check.same("a script that ends at once", Blinds.run(blind, "swap 2;swap 0;"), 0);
        Check.same("empty behind an end", State.bufferLength(blind), 0);
    }

    // An error within repeats leaves nothing of them for the next script.
    private static void refusedWithinRepeats() {
        BambooBlind blind = Blinds.of(TEXT);
        Blinds.feed(blind, "repeat 2(repeat 2(swap 0;");
        Check.noValue("an end within repeats", blind::runScript);
        Check.same("repeats then", Blinds.run(blind, "repeat 2(repeat 2(swap 0;););"), 4);
        Blinds.feed(blind, "swap 0;".repeat(30) + "swap");
        Check.noValue("a 31st command", blind::runScript);
        Check.same("30 commands then", Blinds.run(blind, "swap 0;".repeat(30)), 30);
        Blinds.feed(blind, "repeat 2(swap 0;");
        Check.noValue("an end within a repeat", blind::runScript);
        Blinds.feed(blind, "swap 0;)");
        Check.noValue("it is not closed later", blind::runScript);
        Check.same("where it is not", blind.errorPosition(), 7);
    }

    // Promise 5: "Throws IllegalArgumentException if the text has an error; only the buffer,
    // errorCode() and errorPosition() change then"
    private static void refused() {
        String[] scripts = {";", "swap 0;swap 0", "swap 0;pull right 1;free 1;tie 0;dab 0 left 0 0 1",
            "turn 0 left 4;repeat 2(repeat 2(repeat 2(swap 0;););));", "swap 0;repeat 21(swap 0;);",
            "swap 0;".repeat(31), "paint 0 left;repeat 2(swap 0;)"};
        for (String script : scripts) {
            Twins.textRefused("the script " + script, Twins::used, blind -> wrong(blind, script));
            Twins.textRefused("a new object: " + script, BambooBlind::new,
                    blind -> wrong(blind, script));
        }
    }

    // Promise 5: "Returns the number of commands that were done, "repeat" not counted."
    private static void answersTheCommandsDone() {
        BambooBlind blind = Blinds.of(TEXT);
        Check.same("none", Blinds.run(blind, "repeat 20();"), 0);
        Check.same("one", Blinds.run(blind, "repeat 1(repeat 1(swap 0;););"), 1);
        Check.same("all", Blinds.run(blind, "swap 0;".repeat(30)), 30);
        Check.same("also those that change nothing", Blinds.run(blind,
                "pull left 8;pull left 8;turn 0 left 4;"), 3);
    }

    // "pull": "to the left by a number below 0"; -8 to 8, not 0
    private static void pullCommand() {
        done("pull left 8;");
        done("pull right 8;");
        done("pull left 1;");
        done("pull right 001;");
        ends("pull left 9;");
        ends("pull right 9;");
        ends("pull left 0;");
        ends("pull right 0;");
        ends("pull right 999;");
        turns("pull left 8;", "-4 -4");
        turns("pull right 8;", "4 4");
        turns("pull left 1;", "-1 0");
        turns("pull right 1;", "1 2");
    }

    // "turn" "likewise"; -4 to 4; "the first N [...] is the slat"; not a tied one
    private static void turnCommand() {
        done("turn 0 left 4;");
        done("turn 1 right 4;");
        done("turn 1 left 0;");
        ends("turn 0 left 5;");
        ends("turn 0 right 5;");
        ends("turn 2 left 1;");
        ends("turn 999 left 1;");
        ends("tie 1;turn 1 left 1;");
        turns("turn 0 left 4;", "-4 1");
        turns("turn 1 right 4;", "0 4");
        turns("turn 1 left 0;", "0 0");
    }

    // "tie() (of "tie" on, of "free" off)"; "return false"
    private static void tieAndFreeCommands() {
        done("tie 0;");
        done("tie 1;");
        done("tie 1;free 1;");
        ends("tie 2;");
        ends("free 2;");
        ends("free 0;");
        ends("free 1;");
        ends("tie 0;tie 0;");
        ends("tie 0;free 0;free 0;");
        ends("tie 999;");
        ends("tie 32;");
        ends("tie 1;free 33;");
        ties("tie 0;", "1 0");
        ties("tie 1;", "0 1");
        ties("tie 0;tie 1;free 1;", "1 0");
        ties("tie 0;tie 1;free 0;", "0 1");
    }

    // "paint" "as the methods": as many coats as a face bears
    private static void paintCommand() {
        done("paint 0 left;paint 0 right;paint 1 left;paint 1 right;");
        ends("paint 0 left;paint 0 left;");
        ends("paint 1 right;paint 1 right;");
        ends("paint 2 left;");
        ends("paint 999 right;");
    }

    // "dab" "as the methods": column and row of the slat, colour 0 to 9
    private static void dabCommand() {
        done("dab 0 left 0 0 0;");
        done("dab 0 left 2 1 9;");
        done("dab 1 right 1 1 9;");
        ends("dab 2 left 0 0 1;");
        ends("dab 0 left 3 0 1;");
        ends("dab 1 left 2 0 1;");
        ends("dab 0 left 0 2 1;");
        ends("dab 0 left 0 0 10;");
        ends("dab 0 left 0 0 999;");
        ends("dab 0 left 0 999 1;");
        ends("dab 0 left 999 0 1;");
        BambooBlind blind = Blinds.of(TEXT);
        Blinds.run(blind, "dab 0 left 2 1 9;dab 1 right 0 1 8;dab 1 left 1 0 0;");
        Check.same("the cell of slat 0", Blinds.face(blind, 0, false), "333/339");
        Check.same("the right cell of slat 1", Blinds.face(blind, 1, true), "00/80");
        Check.same("the left cell of slat 1", Blinds.face(blind, 1, false), "30/33");
    }

    private static void swapCommand() {
        done("swap 0;");
        done("swap 1;");
        ends("swap 2;");
        ends("swap 999;");
    }

    // A blind without slats: "pull" alone is not refused there.
    private static void withoutSlats() {
        BambooBlind blind = new BambooBlind();
        Check.same("pull", Blinds.run(blind, "pull left 1;pull right 8;"), 2);
        String[] commands = {"turn 0 left 1;", "tie 0;", "free 0;", "paint 0 left;",
            "dab 0 left 0 0 1;", "swap 0;", "pull left 0;"};
        for (String command : commands) {
            Check.same("no slat for " + command, Blinds.run(blind, command + "pull left 1;"), 0);
        }
    }

    // "numbers N are 0 to 999"
    private static void numbers() {
        String[] scripts = {"pull left %s;", "turn %s left 0;", "turn 0 left %s;", "tie %s;",
            "free %s;", "paint %s left;", "dab %s left 0 0 0;", "dab 0 left %s 0 0;",
            "dab 0 left 0 %s 0;", "dab 0 left 0 0 %s;", "swap %s;"};
        for (String script : scripts) {
            SCRIPTS.fine(script.replace("%s", "0"));
            SCRIPTS.fine(script.replace("%s", "000"));
            SCRIPTS.fine(script.replace("%s", "999"));
            SCRIPTS.error(script.replace("%s", "1000"), 1, script.indexOf('%'));
            SCRIPTS.error(script.replace("%s", "0000"), 1, script.indexOf('%'));
        }
    }

    // "of "repeat" 1 to 20"
    private static void timesOfRepeat() {
        for (int times = 1; times <= 20; times++) {
            BambooBlind blind = Blinds.of(TEXT);
            Check.same("times", Blinds.run(blind, "repeat " + times + "(swap 0;);"), times);
            Check.same("times within", Blinds.run(blind, "repeat 1(repeat " + times
                    + "(swap 0;););"), times);
        }
        SCRIPTS.error("repeat 0(swap 0;);", 2, 7);
        SCRIPTS.error("repeat 21(swap 0;);", 2, 7);
        SCRIPTS.error("repeat 999(swap 0;);", 2, 7);
        SCRIPTS.error("repeat 1000(swap 0;);", 1, 7);
        SCRIPTS.error("repeat 1(repeat 0(swap 0;););", 2, 16);
        SCRIPTS.error("repeat 1(repeat 21(swap 0;););", 2, 16);
        SCRIPTS.fine("repeat 001(swap 0;);");
    }

    // "repeat" N "(" script ")": the script in it may be empty.
    private static void emptyRepeat() {
        BambooBlind blind = Blinds.of(TEXT);
        Check.same("an empty repeat", Blinds.run(blind, "repeat 20();swap 0;"), 1);
        Check.same("with signs in it", Blinds.run(blind, "repeat 20( \n );swap 0;"), 1);
        Check.same("an empty one within", Blinds.run(blind, "repeat 2(repeat 20();swap 0;);"), 2);
        Check.same("behind a command", Blinds.run(blind, "repeat 2(swap 0;repeat 20(););"), 2);
        Check.same("empty ones within", Blinds.run(blind,
                "repeat 20(repeat 20();repeat 20(););swap 0;"), 1);
    }

    // "A script ends as a whole at a command whose method would throw an exception or return
    // false"
    private static void endsAsAWhole() {
        BambooBlind blind = Blinds.of(TEXT);
        Check.same("in a repeat", Blinds.run(blind, "repeat 2(swap 0;swap 2;swap 0;);swap 0;"), 1);
        Check.same("in a repeat within", Blinds.run(blind,
                "repeat 2(repeat 2(swap 0;swap 2;);swap 0;);swap 0;"), 1);
        Check.same("the second time", Blinds.run(blind, "repeat 3(tie 0;swap 0;);swap 0;"), 2);
        Check.same("the second time within", Blinds.run(blind,
                "repeat 2(repeat 3(free 0;swap 1;);swap 0;);swap 0;"), 2);
        Check.same("behind a repeat", Blinds.run(blind, "repeat 3(swap 0;);swap 2;swap 0;"), 3);
        Check.same("the first one", Blinds.run(blind, "swap 2;repeat 3(swap 0;);"), 0);
    }

    // "the commands before stay done, and it is not counted"
    private static void commandsBeforeStayDone() {
        BambooBlind blind = Blinds.of(TEXT);
        Check.same("two before", Blinds.run(blind, "pull left 1;dab 0 left 0 0 8;tie 2;pull left 1;"),
                2);
        Check.same("pulled once", Blinds.ofSlats(blind, 2), "-1 0");
        Check.same("dabbed", blind.face(0, false, 0, 0), 8);
        Check.same("one call to undo", blind.setting(9), 1);
        Check.same("undone as a whole", blind.undo(), 0);
        Check.same("as before", Blinds.all(blind), Blinds.all(Blinds.of(TEXT)));
    }

    // "It also ends early when 40 commands ("repeat" not counted) were done."
    private static void fortyCommands() {
        String thirteen = "repeat 13(swap 0;swap 0;swap 0;);";
        counted("39 commands", thirteen, 39, "0 1");
        counted("40 commands", thirteen + "turn 0 left 4;", 40, "-4 1");
        counted("41 commands", thirteen + "turn 0 left 4;turn 1 left 4;", 40, "-4 1");
        counted("42 commands", thirteen + "swap 0;turn 0 left 4;turn 1 left 4;", 40, "0 1");
        counted("40 and a repeat", thirteen + "repeat 1(turn 0 left 4;);turn 1 left 4;", 40, "-4 1");
        counted("40 commands in all", "repeat 20(swap 0;swap 0;);turn 0 left 4;", 40, "0 1");
        counted("20 times two", "repeat 20(swap 0;pull left 1;);pull right 8;", 40, "-4 -4");
    }

    private static void fortyCommandsInRepeats() {
        counted("800 commands", "repeat 20(repeat 20(swap 0;););turn 0 left 4;", 40, "0 1");
        counted("repeats are not counted",
                "repeat 20(repeat 1(swap 0;);repeat 1(swap 0;););turn 0 left 4;", 40, "0 1");
        counted("39 in repeats", "repeat 13(repeat 3(swap 0;););turn 0 left 4;", 40, "-4 1");
        counted("ends within", "repeat 2(repeat 20(swap 0;);turn 0 left 1;);turn 0 left 4;", 40,
                "-1 1");
        counted("empty ones before", "repeat 20(repeat 20();repeat 20(););turn 0 left 4;", 1,
                "-4 1");
    }

    private static void counted(String what, String script, int commands, String turns) {
        BambooBlind blind = Blinds.of(TEXT);
        Check.same(what, Blinds.run(blind, script), commands);
        Check.same("turns by " + what, Blinds.ofSlats(blind, 2), turns);
        Check.same("one call to undo: " + what, blind.setting(9), 1);
    }

    private static void refusedAtTheFortyFirst() {
        BambooBlind blind = Blinds.of(TEXT);
        Check.same("the 41st is refused", Blinds.run(blind, "repeat 20(swap 0;swap 0;);swap 2;"), 40);
        Check.same("the 40th is refused",
                Blinds.run(blind, "repeat 13(swap 0;swap 0;swap 0;);swap 2;swap 0;"), 39);
    }

    // Error 1: "a token (or the end of the text) that the grammar does not allow here"
    private static void grammarOfScripts() {
        SCRIPTS.check("pull left 1 ;", "w s n ;");
        SCRIPTS.check("turn 1 right 1 ;", "w n s n ;");
        SCRIPTS.check("tie 1 ;", "w n ;");
        SCRIPTS.check("free 1 ;", "w n ;");
        SCRIPTS.check("paint 1 left ;", "w n s ;");
        SCRIPTS.check("dab 1 right 1 1 1 ;", "w n s n n n ;");
        SCRIPTS.check("swap 1 ; tie 1 ;", "w n ; w n ;");
        SCRIPTS.check("repeat 1 ( ) ;", "w n ( )w ;");
        SCRIPTS.check("repeat 1 ( swap 1 ; ) ; tie 1 ;", "w n ( )w n ; )w ; w n ;");
        SCRIPTS.check("repeat 1 ( repeat 1 ( swap 1 ; ) ; tie 1 ; ) ;",
                "w n ( )w n ( )w n ; )w ; )w n ; )w ;");
        SCRIPTS.error("repeat 1();)", 1, 11);
        SCRIPTS.error("repeat 1(repeat 1(););)", 1, 22);
        SCRIPTS.error("repeat 1(swap 0);", 1, 15);
        SCRIPTS.error("repeat 1(;);", 1, 9);
    }

    // "The tokens are those of a text."
    private static void runsOfLettersAndDigits() {
        SCRIPTS.otherLetters("pull left 1;", "pull");
        SCRIPTS.otherLetters("pull left 1;", "left");
        SCRIPTS.otherLetters("turn 0 right 1;", "turn");
        SCRIPTS.otherLetters("turn 0 right 1;", "right");
        SCRIPTS.otherLetters("tie 0;", "tie");
        SCRIPTS.otherLetters("free 0;", "free");
        SCRIPTS.otherLetters("paint 0 left;", "paint");
        SCRIPTS.otherLetters("dab 0 left 0 0 0;", "dab");
        SCRIPTS.otherLetters("swap 0;", "swap");
        SCRIPTS.otherLetters("repeat 1();", "repeat");
        SCRIPTS.error("swapswap 0;", 1, 0);
        SCRIPTS.error("swapswaps 0;", 1, 0);
        SCRIPTS.error("repeats 1();", 1, 0);
        SCRIPTS.error("swaps 0;", 1, 0);
        SCRIPTS.error("swa 0;", 1, 0);
        SCRIPTS.error("Swap 0;", 1, 0);
        SCRIPTS.error("pull leftright 1;", 1, 5);
        SCRIPTS.error("tieleft 0;", 1, 0);
        SCRIPTS.fine("swap0;pull left1;turn0left1;repeat2(swap0;);dab0left0 0 0;");
        SCRIPTS.fine("\nswap\n0\n;\nrepeat\n2\n(\nswap\n0\n;\n)\n;\n");
    }

    private static void everyByte() {
        for (int sign = 0; sign < 256; sign++) {
            String told = String.valueOf((char) sign);
            if (sign == 32 || sign == 10) {
                SCRIPTS.fine(told + "repeat" + told + "2(" + told + ")" + told + ";" + told);
            } else {
                SCRIPTS.error(told, 1, 0);
                SCRIPTS.error("repeat 2()" + told + ";", 1, sign == ';' ? 11 : 10);
            }
        }
    }

    // "the first error is reported"
    private static void firstErrorOfSeveral() {
        SCRIPTS.error("repeat 0(repeat 0(repeat", 2, 7);
        SCRIPTS.error("repeat 1(repeat 1(repeat 0#", 3, 18);
        SCRIPTS.error("swap 1000;#", 1, 5);
        SCRIPTS.error("repeat 21#", 2, 7);
        SCRIPTS.error("repeat 21", 2, 7);
        SCRIPTS.error("repeat 1#(", 1, 8);
    }

    // "if several codes apply at one token, the lowest one"
    private static void lowestCodeOfSeveral() {
        // A third repeat that is the 31st command, and one of these that is not allowed here.
        String twentyEight = "swap 0;".repeat(28);
        SCRIPTS.error("repeat 1(repeat 1(" + twentyEight + "repeat 1();););", 3, 214);
        SCRIPTS.error("repeat 1(repeat 1(" + twentyEight + "swap 0;););", 5, 214);
        SCRIPTS.error("repeat 1(repeat 1(swap repeat", 1, 23);
        SCRIPTS.error("repeat 1(repeat 1(swap 0 repeat", 1, 25);
        SCRIPTS.error("swap 0;".repeat(29) + "swap 0 swap 0;", 1, 210);
        SCRIPTS.error("swap 0;".repeat(29) + "swap swap 0;", 1, 208);
        SCRIPTS.error("swap 0;".repeat(30) + "slat 1;", 1, 210);
        SCRIPTS.error("swap 0;".repeat(30) + ")", 1, 210);
        SCRIPTS.error("repeat 0000();", 1, 7);
        SCRIPTS.error("swap 0 21;", 1, 7);
    }

    // Error 3: "the first word of a "repeat" within two others"
    private static void thirdRepeat() {
        SCRIPTS.fine("repeat 1(repeat 1(););");
        SCRIPTS.fine("repeat 1(repeat 1();repeat 1(););repeat 1(repeat 1(););");
        SCRIPTS.error("repeat 1(repeat 1(repeat 1(););););", 3, 18);
        SCRIPTS.error("repeat 1(repeat 1( repeat", 3, 19);
        SCRIPTS.error("repeat 1(repeat 1(repeat 0", 3, 18);
        SCRIPTS.error("repeat 1(swap 0;repeat 1(swap 0;repeat 1(", 3, 32);
        SCRIPTS.error("repeat 1(repeat 1();repeat 1(repeat 1(", 3, 29);
        SCRIPTS.error("repeat 1();repeat 1(repeat 1(repeat 1(", 3, 29);
    }

    // Error 5: "the first word of a 31st command of the text ("repeat" counts as one, too)"
    private static void thirtyFirstCommand() {
        BambooBlind blind = Blinds.of(TEXT);
        Check.same("30 commands", Blinds.run(blind, "swap 0;".repeat(29) + "turn 0 left 4;"), 30);
        Check.same("the 30th is done", blind.slat(0, 2), -4);
        SCRIPTS.error("swap 0;".repeat(30) + "swap 0;", 5, 210);
        SCRIPTS.error("swap 0;".repeat(30) + "\n swap", 5, 212);
        SCRIPTS.error("swap 0;".repeat(30) + "repeat", 5, 210);
        SCRIPTS.fine("repeat 1(" + "swap 0;".repeat(29) + ");");
        SCRIPTS.error("repeat 1(" + "swap 0;".repeat(30) + ");", 5, 212);
        SCRIPTS.error("repeat 1(" + "swap 0;".repeat(29) + ");swap 0;", 5, 214);
        SCRIPTS.fine("repeat 1();".repeat(30));
        SCRIPTS.error("repeat 1();".repeat(31), 5, 330);
        SCRIPTS.fine("repeat 1(repeat 1(" + "swap 0;".repeat(28) + "););");
        // A command is one of the text, also if it is done several times.
        Check.same("done more often", Blinds.run(blind, "repeat 20(swap 0;pull left 1;);"), 40);
    }

    /** Each command of the script is done, and one behind it, too. */
    private static void done(String script) {
        int commands = script.split(";").length;
        BambooBlind blind = Blinds.of(TEXT);
        Check.same("done: " + script, Blinds.run(blind, script + "swap 0;"), commands + 1);
    }

    /** The last command of the script is not done, nor the one behind it; the others are. */
    private static void ends(String script) {
        int commands = script.split(";").length - 1;
        String before = script.substring(0, script.lastIndexOf(';', script.length() - 2) + 1);
        BambooBlind blind = Blinds.of(TEXT);
        BambooBlind other = Blinds.of(TEXT);
        Check.same("ends: " + script, Blinds.run(blind, script + "swap 0;"), commands);
        Check.same("no error: " + script, blind.errorCode(), 0);
        Check.same("before " + script, Blinds.run(other, before), commands);
        Check.same("as if it ended before " + script, State.whole(blind), State.whole(other));
    }

    private static void ties(String script, String ties) {
        BambooBlind blind = Blinds.of(TEXT);
        Blinds.run(blind, script);
        Check.same("ties by " + script, Blinds.ofSlats(blind, 3), ties);
    }

    private static void turns(String script, String turns) {
        BambooBlind blind = Blinds.of(TEXT);
        Blinds.run(blind, script);
        Check.same("turns by " + script, Blinds.ofSlats(blind, 2), turns);
    }

    private static void wrong(BambooBlind blind, String script) {
        blind.truncate(0);
        Blinds.feed(blind, script);
        blind.runScript();
    }
}
