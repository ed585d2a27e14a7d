import java.util.List;

/**
 * The bounds of a new object, of the buffer, of texts and of their errors: "The text" of the terms,
 * and promises 1 to 4, 6 and 7. The sentence that a test stands for is told above it.
 */
public final class TextBoundsTest {
    private static final int NONE = BambooBlind.NONE;
    private static final int SPACES = 0x20202020;
    private static final Grammar TEXTS =
            new Grammar(List.of("high", "slat", "box", "coats"), BambooBlind::readText);

    private TextBoundsTest() {
    }

    public static void main(String[] args) {
        newObject();
        feedCounts();
        feedOrder();
        feedRefused();
        truncateBounds();
        truncateRefused();
        readTextReplacesAll();
        readTextReplacesWhatIsSeen();
        readTextBeginsAnew();
        readTextEmptiesTheBuffer();
        readTextAnswersTheSlats();
        readTextRefused();
        noErrorYet();
        errorOfTheLatestReading();
        otherCallsKeepTheError();
        firstAndLastPosition();
        emptyTexts();
        fullTexts();
        runsOfLetters();
        runsOfDigits();
        everyByte();
        signsBeforeBetweenAndBehind();
        nothingBetween();
        rowsAndCoats();
        rowsAndCoatsAnywhere();
        slatNumbers();
        boxNumbers();
        boxSides();
        grammarOfTexts();
        firstErrorOfSeveral();
        lowestCodeOfSeveral();
        secondHighOrCoats();
        countedInEachTextAnew();
        eleventhSlat();
        seventeenthBox();
        Check.end();
    }

    // Promise 1: "Creates a state as if an empty text was read, with an empty buffer."
    private static void newObject() {
        BambooBlind read = new BambooBlind();
        Check.same("an empty text", read.readText(), 0);
        Check.same("a new object is as if an empty text was read", State.whole(new BambooBlind()),
                State.whole(read));
        Check.same("rows without \"high\"", new BambooBlind().setting(1), 4);
        Check.same("coats without \"coats\"", new BambooBlind().setting(5), 9);
        BambooBlind blind = new BambooBlind();
        Check.noValue("its buffer holds nothing", () -> blind.truncate(1));
        Check.same("its buffer is empty", blind.truncate(0), 0);
        Check.same("its buffer from empty on", blind.feed(0, 0, 0, 0, 0), 20);
    }

    // Promise 2: "Returns the number of bytes in the buffer."
    private static void feedCounts() {
        BambooBlind blind = new BambooBlind();
        for (int length = 20; length <= 600; length += 20) {
            Check.same("bytes in the buffer", spaces(blind), length);
        }
        blind.truncate(1);
        Check.same("bytes behind one", spaces(blind), 21);
    }

    // Promise 2: "Appends 20 bytes: the four bytes of each argument, the most significant first."
    private static void feedOrder() {
        for (int at = 0; at < 20; at++) {
            int[] four = {SPACES, SPACES, SPACES, SPACES, SPACES};
            int shift = 24 - 8 * (at % 4);
            four[at / 4] = four[at / 4] & ~(255 << shift) | 128 << shift;
            BambooBlind blind = new BambooBlind();
            spaces(blind);
            blind.feed(four[0], four[1], four[2], four[3], four[4]);
            Check.noValue("a wrong byte at " + at, blind::readText);
            Check.same("the place of byte " + at, blind.errorPosition(), 20 + at);
        }
    }

    // Promise 2: "Throws IllegalStateException if it would exceed 600."
    private static void feedRefused() {
        BambooBlind nearly = filled(580);
        Check.same("feed up to 600", spaces(nearly), 600);
        Twins.noState("feed beyond 600", () -> filled(600), TextBoundsTest::spaces);
        Twins.noState("feed to 619", () -> filled(599), TextBoundsTest::spaces);
        Twins.noState("feed to 601", () -> filled(581), TextBoundsTest::spaces);
    }

    // Promise 3: "Truncates the buffer. Returns n."
    private static void truncateBounds() {
        Check.same("an empty buffer to 0", new BambooBlind().truncate(0), 0);
        Check.same("a full buffer to 600", filled(600).truncate(600), 600);
        Check.same("a full buffer to 599", filled(600).truncate(599), 599);
        Check.same("a full buffer to 0", filled(600).truncate(0), 0);
        BambooBlind blind = new BambooBlind();
        Blinds.feed(blind, "slat 3;");
        Check.same("to the present length", blind.truncate(7), 7);
        Check.same("nothing is lost", blind.readText(), 1);
        Blinds.feed(blind, "slat 3;");
        Check.same("to one byte less", blind.truncate(6), 6);
        Check.noValue("the last byte is lost", blind::readText);
        Check.same("where it was", blind.errorPosition(), 6);
        Blinds.feed(blind, "slat 3;");
        Check.same("to nothing", blind.truncate(0), 0);
        Check.same("all is lost", blind.readText(), 0);
    }

    // Promise 3: "Throws IllegalArgumentException if n is negative or greater than the present
    // length."
    private static void truncateRefused() {
        int[] lengths = {-1, 15, 600, Integer.MIN_VALUE, Integer.MAX_VALUE};
        for (int n : lengths) {
            // The buffer holds 14 bytes.
            Twins.noValue("truncate to " + n, Twins::used, blind -> blind.truncate(n));
        }
        Twins.noValue("truncate nothing to 1", BambooBlind::new, blind -> blind.truncate(1));
        Twins.noValue("truncate nothing to -1", BambooBlind::new, blind -> blind.truncate(-1));
        Twins.noValue("truncate all to 601", () -> filled(600), blind -> blind.truncate(601));
    }

    // Promise 4: "which replaces all that there is but what is saved and the latest report"
    private static void readTextReplacesAll() {
        BambooBlind blind = Twins.used();
        String report = State.report(blind);
        Check.same("another text", blind.readText(), 1);
        Check.same("all is replaced", Blinds.all(blind), Blinds.all(Blinds.of("slat 4;high 3;")));
        Check.same("nothing can be undone", blind.setting(9), 0);
        Check.same("no undo", blind.undo(), NONE);
        Check.same("the latest report stays", State.report(blind), report);
        Check.same("what is saved stays", blind.restore(), 2);
        Check.same("all that is saved", blind.face(0, false, 0, 0), 7);
        blind.readText();
        Check.same("replaced by an empty text", Blinds.all(blind), Blinds.all(new BambooBlind()));
    }

    // Narrow slats, then fewer and wider ones at the same columns, and the other way round.
    private static void readTextReplacesWhatIsSeen() {
        String narrow = "high 1;" + "slat 1 left 4;slat 1 right 4;".repeat(5)
                + "box left 0 0 9 1 1;box right 0 0 9 1 2;";
        String wide = "high 1;slat 6 right 1;slat 5;box left 0 0 9 1 3;box right 0 0 9 1 4;";
        replacesWhatIsSeen(narrow, wide);
        replacesWhatIsSeen(wide, narrow);
    }

    private static void replacesWhatIsSeen(String before, String text) {
        BambooBlind blind = Blinds.of(before);
        blind.save();
        Blinds.read(blind, text);
        BambooBlind other = Blinds.of(text);
        for (int angle = -6; angle <= 6; angle++) {
            Check.same("seen of " + text, Blinds.seen(blind, angle), Blinds.seen(other, angle));
        }
        blind.restore();
        BambooBlind first = Blinds.of(before);
        for (int angle = -6; angle <= 6; angle++) {
            Check.same("seen of " + before, Blinds.seen(blind, angle), Blinds.seen(first, angle));
        }
    }

    // "A slat may be tied (not at first)", "with one coat", "not turned without it"
    private static void readTextBeginsAnew() {
        BambooBlind blind = Blinds.of("coats 2;slat 2 right 4;slat 2 left 4;");
        for (int slat = 0; slat < 2; slat++) {
            blind.tie(slat, true);
            blind.paint(slat, true);
            blind.paint(slat, false);
            blind.dab(slat, true, 0, 0, 9);
            blind.dab(slat, false, 1, 3, 9);
            blind.spot(slat == 0, 0, 0, 8);
        }
        Check.same("a text of as many slats", Blinds.read(blind, "coats 2;slat 2;slat 2;"), 2);
        Check.same("no slat is tied", Blinds.ofSlats(blind, 3), "0 0");
        Check.same("one coat of the left faces", Blinds.ofSlats(blind, 4), "1 1");
        Check.same("one coat of the right faces", Blinds.ofSlats(blind, 5), "1 1");
        Check.same("no slat is turned", Blinds.ofSlats(blind, 2), "0 0");
        Check.same("no box", blind.setting(3) + blind.setting(4), 0);
        Check.same("no colour of the pictures", blind.common(), 16);
        Check.same("no colour of the left faces", Blinds.face(blind, 0, false), "00/00/00/00");
        Check.same("no colour of the right faces", Blinds.face(blind, 1, true), "00/00/00/00");
    }

    // Promise 4: "and empties the buffer, also if the text has an error"
    private static void readTextEmptiesTheBuffer() {
        BambooBlind blind = Blinds.of("slat 1;");
        Check.same("empty behind a text", State.bufferLength(blind), 0);
        Blinds.feed(blind, "slat 1;slat 2");
        Check.noValue("a text with an error", blind::readText);
        Check.same("empty behind an error", State.bufferLength(blind), 0);
        Check.same("an empty text", blind.readText(), 0);
        Check.same("empty behind an empty text", State.bufferLength(blind), 0);
    }

    // Promise 4: "Returns the number of slats."
    private static void readTextAnswersTheSlats() {
        for (int slats = 0; slats <= 10; slats++) {
            BambooBlind blind = new BambooBlind();
            int answered = Blinds.read(blind, "high 1;" + "slat 6;".repeat(slats) + "coats 2;");
            Check.same("slats of a text", answered, slats);
        }
    }

    // Promise 4: "Throws IllegalArgumentException if the text has an error; only the buffer,
    // errorCode() and errorPosition() change then"
    private static void readTextRefused() {
        Twins.textRefused("an error at the first token", Twins::used, blind -> wrong(blind, ";"));
        Twins.textRefused("an error at the end", Twins::used,
                blind -> wrong(blind, "high 1;coats 1;slat 3 left 4;box left 0 0 9 9 1"));
        Twins.textRefused("an 11th slat", Twins::used,
                blind -> wrong(blind, "high 1;" + "slat 6;".repeat(11)));
        Twins.textRefused("a 17th box", Twins::used,
                blind -> wrong(blind, "slat 1;" + "box left 0 0 1 1 1;".repeat(17)));
        Twins.textRefused("a second \"high\"", Twins::used,
                blind -> wrong(blind, "high 8;slat 6;high 8;"));
        Twins.textRefused("a new object", BambooBlind::new, blind -> wrong(blind, "high 8;slat"));
        BambooBlind blind = Twins.used();
        wrongCaught(blind, "slat 6;high 8;slat 7;");
        Check.same("a right text then", Blinds.read(blind, "slat 5;"), 1);
        Check.same("nothing is left of the wrong one", Blinds.all(blind),
                Blinds.all(Blinds.of("slat 5;")));
    }

    // Promises 6 and 7: "0 if there was none or no such call", "NONE if there was none or no such
    // call"
    private static void noErrorYet() {
        BambooBlind blind = new BambooBlind();
        Check.same("no code of a new object", blind.errorCode(), 0);
        Check.same("no position of a new object", blind.errorPosition(), NONE);
        blind.readText();
        Check.same("no code of a right text", blind.errorCode(), 0);
        Check.same("no position of a right text", blind.errorPosition(), NONE);
        BambooBlind other = new BambooBlind();
        other.runScript();
        Check.same("no code of a right script", other.errorCode(), 0);
        Check.same("no position of a right script", other.errorPosition(), NONE);
    }

    // Promise 6: "the code of the error of the latest readText() or runScript()"
    private static void errorOfTheLatestReading() {
        BambooBlind blind = new BambooBlind();
        wrongCaught(blind, " slat 7;");
        checkError(blind, "a wrong text", 2, 6);
        Blinds.feed(blind, "swap");
        Check.noValue("a wrong script", blind::runScript);
        checkError(blind, "a wrong script behind a wrong text", 1, 4);
        wrongCaught(blind, "high 1;high 1;");
        checkError(blind, "a wrong text behind a wrong script", 3, 7);
        Check.same("a right script", blind.runScript(), 0);
        checkError(blind, "a right script behind a wrong text", 0, NONE);
        Blinds.feed(blind, "swap 1000;");
        Check.noValue("a wrong script again", blind::runScript);
        checkError(blind, "a wrong script behind a right one", 1, 5);
        Check.same("a right text", blind.readText(), 0);
        checkError(blind, "a right text behind a wrong script", 0, NONE);
        // The command is refused, but the text of the script has no error.
        Blinds.feed(blind, "swap 999;");
        Check.same("a script that ends at once", blind.runScript(), 0);
        checkError(blind, "a script that ends at once", 0, NONE);
    }

    private static void otherCallsKeepTheError() {
        BambooBlind blind = Blinds.of("slat 1;");
        wrongCaught(blind, " slat 7;");
        blind.save();
        blind.swap(0);
        blind.undo();
        blind.report(0);
        blind.restore();
        spaces(blind);
        Check.noValue("a refused truncate", () -> blind.truncate(21));
        Check.noPlace("a refused swap", () -> blind.swap(1));
        Check.noPlace("a refused reportByte", () -> blind.reportByte(999));
        checkError(blind, "other calls", 2, 6);
    }

    // "Errors have a code and a position: the index of the first byte of a token, or the length of
    // the text if it ends too early."
    private static void firstAndLastPosition() {
        TEXTS.error("#", 1, 0);
        TEXTS.error("slat 7;", 2, 5);
        TEXTS.error("slat 777;", 2, 5);
        TEXTS.error("slat", 1, 4);
        TEXTS.error("slat 1 \n \n", 1, 10);
        String spaces = " ".repeat(594);
        TEXTS.error(spaces + "slat 1", 1, 600);
        TEXTS.error("slat 1" + spaces, 1, 600);
        TEXTS.error(spaces + "     #", 1, 599);
        TEXTS.error(spaces + "slat 0", 2, 599);
        TEXTS.error(spaces.substring(1) + "slat 1)", 1, 599);
    }

    // "text = { statement ";" }": also none.
    private static void emptyTexts() {
        String[] texts = {"", " ", "\n", " \n", "\n ", " ".repeat(600), "\n".repeat(600)};
        for (String text : texts) {
            BambooBlind blind = Blinds.of("high 2;slat 1;");
            Check.same("slats of no statement", Blinds.read(blind, text), 0);
            Check.same("rows of no statement", blind.setting(1), 4);
            Check.same("no error of no statement", blind.errorPosition(), NONE);
        }
    }

    // "It is read from a buffer of at most 600 bytes."
    private static void fullTexts() {
        String spaces = " ".repeat(600 - 22);
        String[] texts = {spaces + "slat 6 right 4;slat 5;", "slat 6 right 4;slat 5;" + spaces,
            "slat 6 right 4;" + spaces + "slat 5;", "slat 6 right 4;slat" + spaces + " 5;"};
        for (String text : texts) {
            BambooBlind full = new BambooBlind();
            Blinds.feed(full, text);
            Check.same("bytes of a full text", full.truncate(600), 600);
            Check.same("slats of a full text", full.readText(), 2);
            Check.same("the turn of the first", full.slat(0, 2), 4);
            Check.same("the columns of the last", full.slat(1, 0), 5);
        }
        BambooBlind blind = new BambooBlind();
        Blinds.feed(blind, " ".repeat(593) + "slat 5;");
        Check.noState("the buffer is full", () -> spaces(blind));
        Check.same("a statement at the end of a full buffer", blind.readText(), 1);
        Check.same("its columns", blind.slat(0, 0), 5);
        Check.same("the buffer is free again", spaces(blind), 20);
    }

    // "A word is a maximal run of letters a to z, at most 8 of them." "a longer run of letters"
    private static void runsOfLetters() {
        TEXTS.error("slatslat 1;", 1, 0);
        TEXTS.error("highslat 1;", 1, 0);
        TEXTS.error("slat 1;highhighh 1;", 1, 7);
        TEXTS.error("slat 1 leftleft 1;", 1, 7);
        TEXTS.error("slat 1 leftright 1;", 1, 7);
        TEXTS.error("slat 1 lefts 1;", 1, 7);
        TEXTS.error("slat 1 lef 1;", 1, 7);
        TEXTS.error("boxleft 0 0 1 1 1;", 1, 0);
        TEXTS.error("slat 1;" + "a".repeat(593), 1, 7);
        TEXTS.error("s lat 1;", 1, 0);
        TEXTS.error("slat 1;slaT 1;", 1, 7);
        TEXTS.otherLetters("high 1;", "high");
        TEXTS.otherLetters("coats 1;", "coats");
        TEXTS.otherLetters("slat 1;", "slat");
        TEXTS.otherLetters("slat 1 left 1;", "left");
        TEXTS.otherLetters("slat 1 right 1;", "right");
        TEXTS.otherLetters("box left 1 1 1 1 1;", "box");
        TEXTS.otherLetters("box left 1 1 1 1 1;", "left");
        TEXTS.error("slat 1;slat` 1;", 1, 11);
        TEXTS.error("slat 1;slat{ 1;", 1, 11);
    }

    // "A number N is a maximal run of digits, at most 3 of them." "a longer run of digits"
    private static void runsOfDigits() {
        TEXTS.fine("high 1;");
        TEXTS.fine("high 01;");
        TEXTS.fine("high 001;");
        TEXTS.error("high 0001;", 1, 5);
        TEXTS.error("high 00000000;", 1, 5);
        TEXTS.error("high 999;", 2, 5);
        TEXTS.error("high 1000;", 1, 5);
        TEXTS.error("high 4294967297;", 1, 5);
        TEXTS.error("high 18446744073709551617;", 1, 5);
        TEXTS.error("high 1 0;", 1, 7);
        TEXTS.error("coats " + "9".repeat(594), 1, 6);
        Check.same("three digits", Blinds.of("coats 099;").setting(5), 99);
        Check.same("ten is no one", Blinds.of("coats 10;").setting(5), 10);
        Check.same("all digits", Blinds.of("coats 78;").setting(5) * 1000000
                + Blinds.of("coats 23;").setting(5) * 10000 + Blinds.of("coats 45;").setting(5) * 100
                + Blinds.of("coats 69;").setting(5), 78234569);
    }

    // "Spaces (byte 32) and line feeds (byte 10)" "Every other byte [...] is an invalid token."
    private static void everyByte() {
        for (int sign = 0; sign < 256; sign++) {
            String told = String.valueOf((char) sign);
            boolean isSpace = sign == 32 || sign == 10;
            if (isSpace) {
                TEXTS.fine(told);
                TEXTS.fine("slat" + told + "1;");
                TEXTS.fine("slat 1;" + told);
            } else {
                TEXTS.error(told, 1, 0);
                TEXTS.error("slat 1;" + told, 1, 7);
            }
            boolean isDigit = sign >= '0' && sign <= '9';
            boolean isLetter = sign >= 'a' && sign <= 'z';
            if (!isSpace && !isDigit && !isLetter) {
                TEXTS.error("slat" + told + "1;", 1, 4);
                TEXTS.error("slat 1" + told + told, 1, sign == ';' ? 7 : 6);
            }
        }
    }

    // "Spaces and line feeds may stand before, between and behind tokens"
    private static void signsBeforeBetweenAndBehind() {
        String[] signs = {" ", "\n", " \n", "\n\n  \n"};
        for (String between : signs) {
            String text = String.join(between, "", "high", "3", ";", "slat", "2", "left", "4", ";",
                    "coats", "2", ";", "box", "right", "1", "2", "1", "1", "6", ";", "");
            Check.same("signs between tokens", Blinds.all(Blinds.of(text)),
                    Blinds.all(Blinds.of("high 3;slat 2 left 4;coats 2;box right 1 2 1 1 6;")));
        }
        TEXTS.error("sl at 1;", 1, 0);
        TEXTS.error("slat 1 le ft 1;", 1, 7);
    }

    // "a word and a number side by side need nothing between them"
    private static void nothingBetween() {
        Check.same("nothing between", Blinds.all(Blinds.of("high3;slat2left4;coats2;"
                + "box right1 2 1 1 6;")), Blinds.all(Blinds.of("high 3;slat 2 left 4;coats 2;"
                + "box right 1 2 1 1 6;")));
        TEXTS.error("box right12 1 1 6;", 1, 17);
    }

    // "high" 1 to 8, 4 without it; "coats" 1 to 99, 9 without it
    private static void rowsAndCoats() {
        for (int rows = 1; rows <= 8; rows++) {
            Check.same("rows", Blinds.of("high " + rows + ";").setting(1), rows);
        }
        for (int coats = 1; coats <= 99; coats++) {
            Check.same("coats", Blinds.of("coats " + coats + ";").setting(5), coats);
        }
        TEXTS.error("high 0;", 2, 5);
        TEXTS.error("high 9;", 2, 5);
        TEXTS.error("high 10;", 2, 5);
        TEXTS.error("coats 0;", 2, 6);
        TEXTS.error("coats 000;", 2, 6);
        TEXTS.error("coats 100;", 2, 6);
        TEXTS.error("coats 999;", 2, 6);
        Check.same("rows without it", Blinds.of("coats 3;slat 1;").setting(1), 4);
        Check.same("coats without it", Blinds.of("high 3;slat 1;").setting(5), 9);
    }

    // "both may stand once, anywhere"
    private static void rowsAndCoatsAnywhere() {
        String[] texts = {"high 5;coats 7;slat 1;box left 0 4 1 1 6;",
            "coats 7;slat 1;high 5;box left 0 4 1 1 6;",
            "slat 1;box left 0 4 1 1 6;coats 7;high 5;",
            "box left 0 4 1 1 6;high 5;slat 1;coats 7;"};
        for (String text : texts) {
            Check.same("anywhere: " + text, Blinds.all(Blinds.of(text)),
                    Blinds.all(Blinds.of(texts[0])));
            Check.same("the box is drawn: " + text, Blinds.of(text).face(0, false, 0, 4), 6);
        }
    }

    // "slat": columns 1 to 6; turn 0 to 4, "not turned without it", to the left or to the right
    private static void slatNumbers() {
        for (int columns = 1; columns <= 6; columns++) {
            Check.same("columns", Blinds.of("slat " + columns + ";").slat(0, 0), columns);
        }
        for (int steps = 0; steps <= 4; steps++) {
            Check.same("turn to the left", Blinds.of("slat 1 left " + steps + ";").slat(0, 2),
                    -steps);
            Check.same("turn to the right", Blinds.of("slat 1 right " + steps + ";").slat(0, 2),
                    steps);
        }
        Check.same("not turned", Blinds.of("slat 1 left 4;slat 6;").slat(1, 2), 0);
        TEXTS.error("slat 0;", 2, 5);
        TEXTS.error("slat 7;", 2, 5);
        TEXTS.error("slat 1 left 5;", 2, 12);
        TEXTS.error("slat 1 right 5;", 2, 13);
        TEXTS.error("slat 1 right 999;", 2, 13);
    }

    // "box": column and row 0 to 63, columns and rows 1 to 64, colour 1 to 9
    private static void boxNumbers() {
        int[] least = {0, 0, 1, 1, 1};
        int[] most = {63, 63, 64, 64, 9};
        String[] sides = {"left", "right"};
        for (String side : sides) {
            for (int i = 0; i < 5; i++) {
                TEXTS.fine(box(side, i, least[i]).text);
                TEXTS.fine(box(side, i, most[i]).text);
                Box above = box(side, i, most[i] + 1);
                TEXTS.error(above.text, 2, above.position);
                if (least[i] > 0) {
                    Box below = box(side, i, 0);
                    TEXTS.error(below.text, 2, below.position);
                }
                Box far = box(side, i, 999);
                TEXTS.error(far.text, 2, far.position);
            }
        }
        Check.same("least colour", Blinds.of("slat 1;box left 0 0 1 1 1;").picture(false, 0, 0), 1);
        Check.same("most colour", Blinds.of("slat 1;box right 0 0 1 1 9;").picture(true, 0, 0), 9);
    }

    /** A box with one number of its own, and where this number stands. */
    private static Box box(String side, int which, int number) {
        StringBuilder text = new StringBuilder("box ").append(side);
        int position = 0;
        for (int i = 0; i < 5; i++) {
            text.append(' ');
            position = i == which ? text.length() : position;
            text.append(i == which ? number : 1);
        }
        return new Box(text.append(';').toString(), position);
    }

    private static final class Box {
        final String text;
        final int position;

        Box(String text, int position) {
            this.text = text;
            this.position = position;
        }
    }

    // "at most 16 of both together"
    private static void boxSides() {
        for (int left = 0; left <= 16; left++) {
            String text = "box left 0 0 1 1 1;".repeat(left)
                    + "box right 0 0 1 1 1;".repeat(16 - left);
            BambooBlind blind = Blinds.of(text);
            Check.same("left boxes", blind.setting(3), left);
            Check.same("right boxes", blind.setting(4), 16 - left);
            TEXTS.error(text + "box left 0 0 1 1 1;", 5, text.length());
            TEXTS.error(text + "box right 0 0 1 1 1;", 5, text.length());
        }
    }

    // Error 1: "a token (or the end of the text) that the grammar does not allow here"
    private static void grammarOfTexts() {
        TEXTS.check("high 1 ;", "w n ;");
        TEXTS.check("coats 1 ;", "w n ;");
        TEXTS.check("slat 1 ;", "w n ;s");
        TEXTS.check("slat 1 left 1 ;", "w n ;s n ;");
        TEXTS.check("slat 1 right 1 ; slat 2 ;", "w n ;s n ; w n ;s");
        TEXTS.check("box left 1 1 1 1 1 ;", "w s n n n n n ;");
        TEXTS.check("box right 1 1 1 1 1 ; high 1 ;", "w s n n n n n ; w n ;");
    }

    // "Tokens are checked from left to right and the first error is reported"
    private static void firstErrorOfSeveral() {
        TEXTS.error("high 9;high 9;", 2, 5);
        TEXTS.error("high 1;high 9;slat 7;#", 3, 7);
        TEXTS.error("slat 7 7;", 2, 5);
        TEXTS.error("slat 1 2;slat 7;", 1, 7);
        TEXTS.error("box left 64 64 65 65 10", 2, 9);
        TEXTS.error("box left 1 64 0 65 10", 2, 11);
        TEXTS.error("slat 1;" + "slat 6;".repeat(10) + "high 9;", 5, 70);
        TEXTS.error("#high 9;", 1, 0);
        TEXTS.error("high 9#;", 2, 5);
        TEXTS.error("high 9", 2, 5);
    }

    // "if several codes apply at one token, the lowest one"
    private static void lowestCodeOfSeveral() {
        // A number out of its range that is not allowed here, or too long.
        TEXTS.error("high 1 9;", 1, 7);
        TEXTS.error("slat 7777;", 1, 5);
        TEXTS.error("slat left 9;", 1, 5);
        TEXTS.error("9;", 1, 0);
        // A second first word, or one too many, that is not allowed here.
        TEXTS.error("high 1 high 1;", 1, 7);
        TEXTS.error("high 1;coats high 1;", 1, 13);
        TEXTS.error("high high 1;", 1, 5);
        TEXTS.error("coats 1 coats 1;", 1, 8);
        TEXTS.error("slat 1;".repeat(9) + "slat 1 slat 1;", 1, 70);
        TEXTS.error("box left 1 1 1 1 1;".repeat(15) + "box left 1 1 1 1 1 box", 1, 304);
    }

    // Error 3: "the first word of a second "high" or "coats""
    private static void secondHighOrCoats() {
        TEXTS.error("high 4;high 4;", 3, 7);
        TEXTS.error("high 4;high", 3, 7);
        TEXTS.error("high 4; high 0;", 3, 8);
        TEXTS.error("coats 9;coats 9;", 3, 8);
        TEXTS.error("coats 9;\ncoats;", 3, 9);
        TEXTS.error("high 4;coats 9;slat 1;coats 9;", 3, 22);
        TEXTS.error("coats 9;high 4;slat 1;high 4;", 3, 22);
        TEXTS.error("high 4;coats 9;high 4;coats 9;", 3, 15);
        TEXTS.fine("high 4;coats 9;");
        TEXTS.fine("coats 9;high 4;");
    }

    // "both may stand once": in each text anew, also behind one with an error.
    private static void countedInEachTextAnew() {
        BambooBlind blind = new BambooBlind();
        String full = "high 1;coats 2;" + "slat 1;".repeat(10) + "box left 0 0 1 1 1;".repeat(16);
        for (int times = 0; times < 3; times++) {
            Check.same("a full text", Blinds.read(blind, full), 10);
            wrongCaught(blind, full + "high 1;");
            checkError(blind, "a second \"high\"", 3, full.length());
            wrongCaught(blind, full + "coats 1;");
            checkError(blind, "a second \"coats\"", 3, full.length());
            wrongCaught(blind, full + "slat 1;");
            checkError(blind, "an 11th slat", 5, full.length());
            wrongCaught(blind, full + "box left 0 0 1 1 1;");
            checkError(blind, "a 17th box", 5, full.length());
        }
    }

    // Error 5: "the first word of an 11th slat"
    private static void eleventhSlat() {
        String ten = "slat 1;".repeat(10);
        Check.same("a 10th slat", Blinds.of(ten).setting(0), 10);
        TEXTS.error(ten + "slat 1;", 5, 70);
        TEXTS.error(ten + "\nslat", 5, 71);
        TEXTS.error(ten + "slat 9;", 5, 70);
        TEXTS.error(ten + "high 1;box left 0 0 1 1 1;slat 1;", 5, 96);
        TEXTS.error("slat 1 left 1;".repeat(10) + "slat 1 left 1;", 5, 140);
        TEXTS.fine(ten + "high 1;coats 1;box left 0 0 1 1 1;");
    }

    // Error 5: "the first word of [...] a 17th box"
    private static void seventeenthBox() {
        String sixteen = "box left 0 0 1 1 1;".repeat(16);
        Check.same("a 16th box", Blinds.of(sixteen).setting(3), 16);
        TEXTS.error(sixteen + "box left 0 0 1 1 1;", 5, 304);
        TEXTS.error(sixteen + " box", 5, 305);
        TEXTS.error(sixteen + "box left 64", 5, 304);
        TEXTS.error(sixteen + "slat 1;slat 2;box right 0 0 1 1 1;", 5, 318);
        TEXTS.fine(sixteen + "high 1;coats 1;" + "slat 1;".repeat(10));
    }

    private static void checkError(BambooBlind blind, String what, int code, int position) {
        Check.same("code of " + what, blind.errorCode(), code);
        Check.same("position of " + what, blind.errorPosition(), position);
    }

    private static int spaces(BambooBlind blind) {
        return blind.feed(SPACES, SPACES, SPACES, SPACES, SPACES);
    }

    /** A buffer with a text, spaces behind it. */
    private static BambooBlind filled(int length) {
        BambooBlind blind = new BambooBlind();
        Blinds.feed(blind, "slat 2 left 3;high 5;" + " ".repeat(length - 21));
        return blind;
    }

    private static void wrong(BambooBlind blind, String text) {
        blind.truncate(0);
        Blinds.feed(blind, text);
        blind.readText();
    }

    private static void wrongCaught(BambooBlind blind, String text) {
        Check.noValue("the text " + text, () -> wrong(blind, text));
    }
}
