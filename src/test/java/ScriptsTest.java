/** Promise 5, and 6 and 7 of scripts: scripts and their errors. */
public final class ScriptsTest {
    private static final int NONE = BambooBlind.NONE;

    private static final String TEXT = "high 2;coats 3;slat 1 left 3;slat 2;slat 3 right 4;"
            + "box left 0 0 6 1 1;box left 2 0 1 2 3;box right 0 1 6 1 2;";

    private ScriptsTest() {
    }

    public static void main(String[] args) {
        commands();
        asTheMethods();
        slatsOfCommands();
        emptyScripts();
        repeat();
        repeatInRepeat();
        endsAtARefusedCommand();
        endsWithinRepeats();
        endsAtFortyCommands();
        scriptWithAnError();
        undoOfScripts();
        errorsOfCommands();
        errorsOfNumbers();
        errorsOfRepeat();
        errorsOfTooMany();
        signsBetweenTokens();
        Check.end();
    }

    // Promise 5
    private static void commands() {
        BambooBlind blind = Blinds.of(TEXT);
        Check.same("pull to the left", Blinds.run(blind, "pull left 2;"), 1);
        Check.same("turns to the left", Blinds.ofSlats(blind, 2), "-4 -2 2");
        Check.same("pull to the right", Blinds.run(blind, "pull right 8;"), 1);
        Check.same("turns to the right", Blinds.ofSlats(blind, 2), "4 4 4");
        Check.same("turn", Blinds.run(blind, "turn 0 left 4;turn 1 right 3;turn 2 left 0;"), 3);
        Check.same("turns", Blinds.ofSlats(blind, 2), "-4 3 0");
        Check.same("tie", Blinds.run(blind, "tie 1;tie 0;pull right 1;free 0;"), 4);
        Check.same("ties", Blinds.ofSlats(blind, 3), "0 1 0");
        Check.same("turns of tied slats", Blinds.ofSlats(blind, 2), "-4 3 1");
        Check.same("dab", Blinds.run(blind, "dab 1 right 1 0 9;dab 1 left 0 1 0;"), 2);
        Check.same("the right face", Blinds.face(blind, 1, true), "09/22");
        Check.same("the left face", Blinds.face(blind, 1, false), "13/03");
        Check.same("paint", Blinds.run(blind, "paint 1 left;dab 1 left 1 1 7;paint 0 right;"), 3);
        Check.same("coats of left faces", Blinds.ofSlats(blind, 4), "1 2 1");
        Check.same("coats of right faces", Blinds.ofSlats(blind, 5), "2 1 1");
        Check.same("swap", Blinds.run(blind, "swap 1;"), 1);
        Check.same("the left face then", Blinds.face(blind, 1, false), "09/22");
        Check.same("the right face then", Blinds.face(blind, 1, true), "13/07");
    }

    private static void asTheMethods() {
        BambooBlind blind = Blinds.of(TEXT);
        BambooBlind other = Blinds.of(TEXT);
        Blinds.run(blind, "tie 2;pull left 3;dab 2 left 2 1 5;dab 0 right 0 0 6;paint 2 left;"
                + "swap 0;turn 1 right 2;free 2;pull right 1;paint 0 left;");
        other.tie(2, true);
        other.pull(-3);
        other.dab(2, false, 2, 1, 5);
        other.dab(0, true, 0, 0, 6);
        other.paint(2, false);
        other.swap(0);
        other.turn(1, 2);
        other.tie(2, false);
        other.pull(1);
        other.paint(0, false);
        Check.same("a script does as the methods do", Blinds.all(blind), Blinds.all(other));
    }

    /** The first number of a command is the slat, also where the others are numbers of slats. */
    private static void slatsOfCommands() {
        BambooBlind blind = Blinds.of(TEXT);
        Check.same("dab of slat 2", Blinds.run(blind, "dab 2 left 1 0 6;dab 2 right 0 1 7;"), 2);
        Check.same("left face 2", Blinds.face(blind, 2, false), "161/000");
        Check.same("right face 2", Blinds.face(blind, 2, true), "000/722");
        Check.same("left face 1", Blinds.face(blind, 1, false), "13/03");
        Check.same("swap of slat 2", Blinds.run(blind, "swap 2;"), 1);
        Check.same("left face 2 then", Blinds.face(blind, 2, false), "000/722");
        Check.same("left face 1 then", Blinds.face(blind, 1, false), "13/03");
        Check.same("left face 0 then", Blinds.face(blind, 0, false), "1/0");
    }

    private static void emptyScripts() {
        BambooBlind blind = Blinds.of(TEXT);
        Check.same("an empty script", blind.runScript(), 0);
        Check.same("a script of signs", Blinds.run(blind, " \n"), 0);
        Check.same("an empty repeat", Blinds.run(blind, "repeat 20();"), 0);
        Check.same("empty repeats", Blinds.run(blind, "repeat 20(repeat 20();repeat 20(););"), 0);
        Check.same("all of them can be undone", blind.setting(9), 4);
        Check.noValue("the buffer is empty then", () -> blind.truncate(1));
    }

    private static void repeat() {
        BambooBlind blind = Blinds.of(TEXT);
        Check.same("repeat once", Blinds.run(blind, "repeat 1(pull right 1;);"), 1);
        Check.same("turns", Blinds.ofSlats(blind, 2), "-2 1 4");
        Check.same("repeat", Blinds.run(blind, "repeat 3(pull right 1;tie 0;free 0;);swap 0;"), 10);
        Check.same("turns then", Blinds.ofSlats(blind, 2), "1 4 4");
        Check.same("two repeats",
                Blinds.run(blind, "repeat 2(pull left 1;);repeat 3(pull left 1;);pull left 1;"), 6);
        Check.same("turns at last", Blinds.ofSlats(blind, 2), "-4 -2 -2");
        Check.same("20 times", Blinds.run(blind, "repeat 20(swap 1;);"), 20);
    }

    private static void repeatInRepeat() {
        BambooBlind blind = Blinds.of("slat 6;slat 6 left 4;");
        Check.same("repeat in repeat",
                Blinds.run(blind, "repeat 2(repeat 3(pull right 1;);pull left 1;);"), 8);
        Check.same("turns", Blinds.ofSlats(blind, 2), "3 0");
        Check.same("repeats in a repeat", Blinds.run(blind, "repeat 2(repeat 1(swap 0;);"
                + "repeat 2(pull left 1;);repeat 3();turn 0 left 2;);pull right 1;"), 9);
        Check.same("turns then", Blinds.ofSlats(blind, 2), "-1 -3");
    }

    private static void endsAtARefusedCommand() {
        endsAt("pull left 0;");
        endsAt("pull right 9;");
        endsAt("pull right 999;");
        endsAt("turn 0 left 5;");
        endsAt("turn 3 left 1;");
        endsAt("turn 999 left 1;");
        endsAt("turn 1 left 1;");
        endsAt("tie 1;");
        endsAt("tie 3;");
        endsAt("tie 33;");
        endsAt("free 0;");
        endsAt("free 3;");
        endsAt("paint 2 right;");
        endsAt("paint 3 left;");
        endsAt("dab 3 left 0 0 1;");
        endsAt("dab 1 left 2 0 1;");
        endsAt("dab 1 left 0 2 1;");
        endsAt("dab 1 left 0 0 10;");
        endsAt("swap 3;");
        endsAt("swap 999;");
    }

    /** The second slat is tied, the right face of the third one bears no more coats. */
    private static void endsAt(String command) {
        BambooBlind blind = Blinds.of(TEXT);
        blind.tie(1, true);
        blind.paint(2, true);
        blind.paint(2, true);
        String before = Blinds.all(blind);
        Check.same("first " + command, Blinds.run(blind, command + "turn 0 right 4;"), 0);
        Check.same("nothing by " + command, Blinds.all(blind), before);
        Check.same("no error by " + command, blind.errorCode(), 0);
        Check.same("third " + command,
                Blinds.run(blind, "swap 0;turn 0 left 1;" + command + "turn 0 right 4;"), 2);
        Check.same("turned before " + command, blind.slat(0, 2), -1);
        Check.same("undo of " + command, blind.setting(9), 5);
    }

    private static void endsWithinRepeats() {
        BambooBlind blind = Blinds.of(TEXT);
        Check.same("the second time", Blinds.run(blind, "repeat 3(turn 0 right 1;tie 0;);swap 0;"), 2);
        Check.same("tied once", blind.slat(0, 3), 1);
        Check.same("as a whole", Blinds.run(blind,
                "repeat 5(repeat 4(paint 1 left;);turn 1 left 4;);turn 1 left 4;"), 2);
        Check.same("it is not turned", blind.slat(1, 2), 0);
        Check.same("painted twice", blind.slat(1, 4), 3);
    }

    private static void endsAtFortyCommands() {
        BambooBlind blind = Blinds.of("high 1;slat 1;");
        Check.same("41 commands", Blinds.run(blind, "repeat 20(swap 0;swap 0;);turn 0 left 4;"), 40);
        Check.same("the 41st is not done", blind.slat(0, 2), 0);
        Check.same("40 commands",
                Blinds.run(blind, "repeat 13(swap 0;swap 0;swap 0;);turn 0 left 4;"), 40);
        Check.same("the 40th is done", blind.slat(0, 2), -4);
        Check.same("800 commands", Blinds.run(blind, "repeat 20(repeat 20(swap 0;););"), 40);
        Check.same("39 commands", Blinds.run(blind, "repeat 13(swap 0;swap 0;swap 0;);"), 39);
        Check.same("repeat is not counted", Blinds.run(blind,
                "repeat 20(repeat 1(swap 0;);repeat 1(swap 0;););"), 40);
    }

    private static void scriptWithAnError() {
        BambooBlind blind = Blinds.of(TEXT);
        blind.swap(1);
        int length = blind.report(0);
        String before = Blinds.all(blind);
        Blinds.feed(blind, "turn 0 left 1;pull right 1;tie 0;paint");
        Check.noValue("a script with an error", blind::runScript);
        Check.same("nothing changes with an error", Blinds.all(blind), before);
        Check.same("undo stays with an error", blind.setting(9), 1);
        Check.same("the report stays", blind.reportByte(length - 1), 10);
        Check.noValue("the buffer is empty with an error", () -> blind.truncate(1));
        Check.same("code", blind.errorCode(), 1);
        Check.same("position", blind.errorPosition(), 38);
        Check.same("a right script then", Blinds.run(blind, "swap 1;"), 1);
        Check.same("no code", blind.errorCode(), 0);
        Check.same("no position", blind.errorPosition(), NONE);
        Blinds.feed(blind, "repeat 2(repeat 2(swap 0;");
        Check.noValue("a script that ends too early", blind::runScript);
        Check.same("a repeat behind it", Blinds.run(blind, "repeat 2(repeat 2(swap 0;););"), 4);
    }

    private static void undoOfScripts() {
        BambooBlind blind = Blinds.of(TEXT);
        String before = Blinds.all(blind);
        Blinds.run(blind, "turn 0 left 1;repeat 9(pull right 1;swap 1;);tie 0;paint 2 left;");
        Check.same("one call to undo", blind.setting(9), 1);
        Check.same("undo of a script", blind.undo(), 0);
        Check.same("all is undone", Blinds.all(blind), before);
        Blinds.run(blind, "turn 0 left 1;turn 0 left 5;");
        Check.same("undo of a script that ended early", blind.undo(), 0);
        Check.same("that is undone", Blinds.all(blind), before);
    }

    // Promises 6 and 7
    private static void errorsOfCommands() {
        scriptError(";", 1, 0);
        scriptError("1;", 1, 0);
        scriptError("left;", 1, 0);
        scriptError("slat 1;", 1, 0);
        scriptError("pulls left 1;", 1, 0);
        scriptError("pul left 1;", 1, 0);
        scriptError("bull left 1;", 1, 0);
        scriptError("pull reft 1;", 1, 5);
        scriptError("pull 1;", 1, 5);
        scriptError("pull left;", 1, 9);
        scriptError("pull left 1", 1, 11);
        scriptError("pull left 1 1;", 1, 12);
        scriptError("pull left right 1;", 1, 10);
        scriptError("turn left 1;", 1, 5);
        scriptError("turn 0 1;", 1, 7);
        scriptError("turn 0 left;", 1, 11);
        scriptError("turn 0 left 1 1;", 1, 14);
        scriptError("tie;", 1, 3);
        scriptError("tie 0 on;", 1, 6);
        scriptError("tie left 0;", 1, 4);
        scriptError("free", 1, 4);
        scriptError("free 0 0;", 1, 7);
        scriptError("paint left 0;", 1, 6);
        scriptError("paint 0;", 1, 7);
        scriptError("paint 0 left 1;", 1, 13);
        scriptError("dab 0 0 0 0;", 1, 6);
        scriptError("dab 0 left 0 0;", 1, 14);
        scriptError("dab 0 left 0;", 1, 12);
        scriptError("dab 0 left;", 1, 10);
        scriptError("dab 0 left 0 0 0 0;", 1, 17);
        scriptError("swap left;", 1, 5);
        scriptError("swap 0 1;", 1, 7);
        scriptError("swap 0;high 4;", 1, 7);
        scriptError("swap 0\n;\n#", 1, 9);
        scriptError("spot left 0 0 1;", 1, 0);
    }

    private static void errorsOfNumbers() {
        scriptError("tie 1000;", 1, 4);
        scriptError("tie 0001;", 1, 4);
        scriptError("pull left 1000;", 1, 10);
        scriptError("repeat 0();", 2, 7);
        scriptError("repeat 21();", 2, 7);
        scriptError("repeat 999();", 2, 7);
        scriptError("repeat 0020();", 1, 7);
        scriptError("repeat 1(repeat 0(););", 2, 16);
        BambooBlind blind = Blinds.of(TEXT);
        Check.same("999 is no error", Blinds.run(blind, "turn 999 left 999;"), 0);
        Check.same("nor is it for dab", Blinds.run(blind, "dab 999 left 999 999 999;"), 0);
        Check.same("leading zeros", Blinds.run(blind, "tie 000;repeat 001(swap 002;);"), 2);
    }

    private static void errorsOfRepeat() {
        scriptError("repeat", 1, 6);
        scriptError("repeat();", 1, 6);
        scriptError("repeat left();", 1, 7);
        scriptError("repeat 2;", 1, 8);
        scriptError("repeat 2 swap 0;", 1, 9);
        scriptError("repeat 2(", 1, 9);
        scriptError("repeat 2( ", 1, 10);
        scriptError("repeat 2(swap 0", 1, 15);
        scriptError("repeat 2(swap 0)", 1, 15);
        scriptError("repeat 2(swap 0;", 1, 16);
        scriptError("repeat 2(swap 0;)", 1, 17);
        scriptError("repeat 2(swap 0;)swap 0;", 1, 17);
        scriptError("repeat 2(swap 0;));", 1, 17);
        scriptError("repeat 2((", 1, 9);
        scriptError("repeat 2(;);", 1, 9);
        scriptError(")", 1, 0);
        scriptError("swap 0;)", 1, 7);
        scriptError("repeat 2();)", 1, 11);
        scriptError("repeat 2(repeat 3(swap 0;););)", 1, 29);
        scriptError("repeat 2(repeat 3(swap 0;);", 1, 27);
        scriptError("repeat 1(repeat 1(repeat 1(););););", 3, 18);
        scriptError("repeat 1(repeat 1(swap 0; repeat", 3, 26);
        scriptError("repeat 1(repeat 1(); repeat 2(repeat 1(););", 3, 30);
        BambooBlind blind = Blinds.of(TEXT);
        Check.same("repeats side by side", Blinds.run(blind,
                "repeat 1(repeat 1(swap 0;);repeat 1(swap 0;););repeat 1(repeat 1(swap 0;););"), 3);
    }

    private static void errorsOfTooMany() {
        String thirty = "swap 0;".repeat(30);
        scriptError(thirty + "swap 0;", 5, 210);
        scriptError(thirty + " swap", 5, 211);
        scriptError(thirty + "repeat 0();", 5, 210);
        scriptError(thirty + "left", 1, 210);
        scriptError("repeat 1();".repeat(30) + "tie 0;", 5, 330);
        scriptError("repeat 2(" + "swap 0;".repeat(29) + "swap 0;);", 5, 212);
        scriptError("repeat 2(repeat 2(" + "swap 0;".repeat(28) + "repeat 1(", 3, 214);
        BambooBlind blind = Blinds.of(TEXT);
        Check.same("30 commands", Blinds.run(blind, thirty), 30);
        Check.same("30 repeats", Blinds.run(blind, "repeat 1();".repeat(30)), 0);
        Check.same("29 commands in a repeat",
                Blinds.run(blind, "repeat 1(" + "swap 0;".repeat(29) + ");"), 29);
    }

    private static void signsBetweenTokens() {
        BambooBlind blind = Blinds.of(TEXT);
        Check.same("no signs between", Blinds.run(blind, "repeat2(turn0left1;pull right1;);"), 4);
        Check.same("many signs between",
                Blinds.run(blind, "\n repeat\n2 ( turn 0\nleft 1 ;\n) \n ; "), 2);
    }

    private static void scriptError(String script, int code, int position) {
        BambooBlind blind = Blinds.of(TEXT);
        Blinds.feed(blind, script);
        Check.noValue("script " + script, blind::runScript);
        Check.same("code of " + script, blind.errorCode(), code);
        Check.same("position of " + script, blind.errorPosition(), position);
        Check.same("no undo of " + script, blind.setting(9), 0);
    }
}
