/** Promises 1 to 4, 6 and 7: a new object, the buffer, texts and their errors. */
public final class TextsTest {
    private static final int NONE = BambooBlind.NONE;

    private TextsTest() {
    }

    public static void main(String[] args) {
        newObject();
        constants();
        feed();
        feedBeyondTheBuffer();
        truncate();
        readText();
        readTextReplacesAll();
        readTextWithAnError();
        signsBetweenTokens();
        boxes();
        errorsOfTokens();
        errorsOfHighAndCoats();
        errorsOfSlats();
        errorsOfBoxes();
        errorOfTheLatestCall();
        Check.end();
    }

    // Promise 1
    private static void newObject() {
        BambooBlind blind = new BambooBlind();
        int[] due = {0, 4, 0, 0, 0, 9, 0, 0, 0, 0};
        for (int what = 0; what < due.length; what++) {
            Check.same("setting " + what + " of a new object", blind.setting(what), due[what]);
        }
        Check.same("code of a new object", blind.errorCode(), 0);
        Check.same("position of a new object", blind.errorPosition(), NONE);
        Check.same("common of a new object", blind.common(), 0);
        Check.same("undo of a new object", blind.undo(), NONE);
        Check.noPlace("slat of a new object", () -> blind.slat(0, 0));
        Check.noPlace("report of a new object", () -> blind.reportByte(0));
        Check.noState("restore of a new object", blind::restore);
        Check.noValue("buffer of a new object", () -> blind.truncate(1));
        Check.same("text of a new object", blind.readText(), 0);
        Check.same("the same as an empty text", Blinds.all(blind), Blinds.all(new BambooBlind()));
    }

    private static void constants() {
        Check.same("NONE", BambooBlind.NONE, -1);
        Check.same("COVERED", BambooBlind.COVERED, -2);
        Check.same("NOWHERE", BambooBlind.NOWHERE, -99);
    }

    // Promise 2
    private static void feed() {
        BambooBlind blind = new BambooBlind();
        // "slat 3;slat 6 left 4"
        Check.same("feed", blind.feed(0x736c6174, 0x20333b73, 0x6c617420, 0x36206c65, 0x66742034), 20);
        // ";high 2;    ", and 8 spaces
        Check.same("feed more",
                blind.feed(0x3b686967, 0x6820323b, 0x20202020, 0x20202020, 0x20202020), 40);
        Check.same("fed slats", blind.readText(), 2);
        Check.same("fed rows", blind.setting(1), 2);
        Check.same("fed widths", Blinds.ofSlats(blind, 0), "3 6");
        Check.same("fed turns", Blinds.ofSlats(blind, 2), "0 -4");
        Check.same("feed behind a text", blind.feed(-1, 0, 0, 0, 0), 20);
        blind.truncate(1);
        Check.noValue("a byte above 127", blind::readText);
        Check.same("a byte above 127 is invalid", blind.errorCode(), 1);
    }

    private static void feedBeyondTheBuffer() {
        BambooBlind blind = new BambooBlind();
        for (int length = 20; length <= 600; length += 20) {
            Check.same("feed up to", blind.feed(0x20202020, 0x20202020, 0x20202020, 0x20202020,
                    0x20202020), length);
        }
        Check.noState("feed beyond 600", () -> blind.feed(1, 2, 3, 4, 5));
        Check.noValue("nothing was fed", () -> blind.truncate(601));
        Check.same("truncate to 581", blind.truncate(581), 581);
        Check.noState("feed to 601", () -> blind.feed(1, 2, 3, 4, 5));
        Check.same("truncate to 580", blind.truncate(580), 580);
        Check.same("feed to 600", blind.feed(0x20202020, 0x20202020, 0x20202020, 0x20202020,
                0x2020203b), 600);
        Check.noValue("a text of 600 bytes", blind::readText);
        Check.same("its last byte", blind.errorPosition(), 599);
        StringBuilder text = new StringBuilder("slat 2;");
        for (int i = text.length(); i < 600; i++) {
            text.append('\n');
        }
        Check.same("a right text of 600 bytes", Blinds.read(blind, text.toString()), 1);
    }

    // Promise 3
    private static void truncate() {
        BambooBlind blind = new BambooBlind();
        Check.same("truncate an empty buffer", blind.truncate(0), 0);
        Check.noValue("truncate an empty buffer to 1", () -> blind.truncate(1));
        Blinds.feed(blind, "slat 1;slat 2;");
        Check.noValue("truncate below 0", () -> blind.truncate(-1));
        Check.noValue("truncate far below 0", () -> blind.truncate(Integer.MIN_VALUE));
        Check.noValue("truncate beyond the length", () -> blind.truncate(15));
        Check.noValue("truncate far beyond", () -> blind.truncate(Integer.MAX_VALUE));
        Check.same("truncate to the length", blind.truncate(14), 14);
        Check.same("truncate", blind.truncate(7), 7);
        Blinds.feed(blind, "slat 3;");
        Check.same("text behind truncate", blind.readText(), 2);
        Check.same("its slats", Blinds.ofSlats(blind, 0), "1 3");
        Blinds.feed(blind, "bad");
        Check.same("truncate to 0", blind.truncate(0), 0);
        Check.same("an empty text", blind.readText(), 0);
    }

    // Promise 4
    private static void readText() {
        BambooBlind blind = new BambooBlind();
        Check.same("slats of a text", Blinds.read(blind, "box right 1 0 2 9 7;slat 2 right 3;"
                + "coats 99;box left 0 1 64 1 9;slat 1 left 0;high 3;slat 6 left 1;"), 3);
        int[] due = {3, 3, 9, 1, 1, 99, 0, 2, 0, 0};
        for (int what = 0; what < due.length; what++) {
            Check.same("setting " + what + " of a text", blind.setting(what), due[what]);
        }
        Check.same("left picture", Blinds.picture(blind, false), "000000000/999999999/000000000");
        Check.same("right picture", Blinds.picture(blind, true), "077000000/077000000/077000000");
        Check.same("left face 0", Blinds.face(blind, 0, false), "00/99/00");
        Check.same("right face 0", Blinds.face(blind, 0, true), "07/07/07");
        Check.same("right face 1", Blinds.face(blind, 1, true), "7/7/7");
        Check.same("right face 2", Blinds.face(blind, 2, true), "000000/000000/000000");
        Check.same("widths", Blinds.ofSlats(blind, 0), "2 1 6");
        Check.same("turns", Blinds.ofSlats(blind, 2), "3 0 -1");
        Check.same("coats of the left faces", Blinds.ofSlats(blind, 4), "1 1 1");
        Check.same("coats of the right faces", Blinds.ofSlats(blind, 5), "1 1 1");
        Check.noValue("the buffer is empty then", () -> blind.truncate(1));
        Check.same("widest blind", Blinds.read(blind, "high 8;slat 6;slat 6;slat 6;slat 6;slat 6;"
                + "slat 6;slat 6;slat 6;slat 6;slat 6;box left 59 7 64 64 8;"), 10);
        Check.same("columns of the widest blind", blind.setting(2), 60);
        Check.same("its last cell", blind.picture(false, 59, 7), 8);
        Check.same("left of its last cell", blind.picture(false, 58, 7), 0);
        Check.same("above its last cell", blind.picture(false, 59, 6), 0);
    }

    private static void readTextReplacesAll() {
        BambooBlind blind = Blinds.of("high 8;coats 3;slat 4 left 2;slat 2;"
                + "box left 0 0 9 9 3;box right 0 0 9 9 4;");
        blind.tie(0, true);
        blind.paint(0, true);
        blind.dab(1, false, 0, 0, 7);
        blind.save();
        int length = blind.report(-2);
        String report = Blinds.report(blind, length);
        Check.same("undo before", blind.setting(9), 3);
        Check.same("another text", Blinds.read(blind, "slat 4;slat 2;"), 2);
        Check.same("all is replaced", Blinds.all(blind), Blinds.all(Blinds.of("slat 4;slat 2;")));
        Check.same("undo is forgotten", blind.setting(9), 0);
        Check.same("nothing to undo", blind.undo(), NONE);
        Check.same("the report stays", Blinds.report(blind, length), report);
        Check.same("what is saved stays", blind.restore(), 2);
        Check.same("the saved tie", blind.slat(0, 3), 1);
        Check.same("the saved dab", blind.face(1, false, 0, 0), 7);
        Check.same("an empty text", blind.readText(), 0);
        Check.same("nothing is left", Blinds.all(blind), Blinds.all(new BambooBlind()));
    }

    private static void readTextWithAnError() {
        BambooBlind blind = Blinds.of("high 2;coats 3;slat 4 left 2;box left 0 0 9 9 3;");
        blind.swap(0);
        String before = Blinds.all(blind);
        Blinds.feed(blind, "high 5;coats 7;slat 1;box right 0 0 1 1 1;box left 0 0 9 9 10;");
        Check.noValue("a text with an error", blind::readText);
        Check.same("nothing changes with an error", Blinds.all(blind), before);
        Check.same("undo stays with an error", blind.setting(9), 1);
        Check.noValue("the buffer is empty with an error", () -> blind.truncate(1));
        Check.same("code", blind.errorCode(), 2);
        Check.same("position", blind.errorPosition(), 59);
        Check.same("undo behind an error", blind.undo(), 0);
    }

    private static void signsBetweenTokens() {
        BambooBlind blind = new BambooBlind();
        Check.same("no signs between", Blinds.read(blind, "high2;slat3left1;slat2;"), 2);
        Check.same("turn without signs", blind.slat(0, 2), -1);
        Check.same("many signs between",
                Blinds.read(blind, " \n high \n 2\n;\n\n slat   3 \nright 4  ; \n"), 1);
        Check.same("turn with signs", blind.slat(0, 2), 4);
        Check.same("only signs", Blinds.read(blind, " \n \n"), 0);
        Check.same("leading zeros", Blinds.read(blind, "high 008;slat 06 left 004;"), 1);
        Check.same("rows with zeros", blind.setting(1), 8);
        Check.same("turn with zeros", blind.slat(0, 2), -4);
    }

    private static void boxes() {
        BambooBlind blind = Blinds.of("high 3;slat 4;box left 1 0 2 2 5;box left 2 1 2 2 6;"
                + "box right 3 2 64 64 4;box right 63 63 1 1 9;box left 4 0 1 1 8;");
        Check.same("the box told last", Blinds.picture(blind, false), "0550/0566/0066");
        Check.same("a box beyond the blind", Blinds.picture(blind, true), "0000/0000/0004");
        Check.same("left boxes", blind.setting(3), 3);
        Check.same("right boxes", blind.setting(4), 2);
        Check.same("left picture of the other order",
                Blinds.picture(Blinds.of("high 3;slat 4;box left 2 1 2 2 6;box left 1 0 2 2 5;"),
                        false), "0550/0556/0066");
    }

    // Promises 6 and 7
    private static void errorsOfTokens() {
        textError(";", 1, 0);
        textError("(", 1, 0);
        textError("  )", 1, 2);
        textError("7;", 1, 0);
        textError("left;", 1, 0);
        textError("slats 1;", 1, 0);
        textError("sla 1;", 1, 0);
        textError("blat 1;", 1, 0);
        textError("slam 1;", 1, 0);
        textError("abcdefghi 1;", 1, 0);
        textError("Slat 1;", 1, 0);
        textError("slat\t1;", 1, 4);
        textError("slat\r1;", 1, 4);
        textError("slat 1;\0", 1, 7);
        textError("slat 1;\u0001", 1, 7);
        textError("slat 1;\u0002", 1, 7);
        textError("slat 1;\u0003", 1, 7);
        textError("slat -1;", 1, 5);
        textError("slat 1:", 1, 6);
        textError("slat 1/", 1, 6);
        textError("slat 1`", 1, 6);
        textError("slat 1{", 1, 6);
        textError("slat 1;\u00ff", 1, 7);
        textError("slat 1;\u00a0", 1, 7);
        textError("slat 1;\u00bb", 1, 7);
        textError("slat 1;slat 2;;", 1, 14);
        textError("slat 1;\n\n tie 0;", 1, 10);
        textError("high 9 @", 2, 5);
        textError("high @ 9", 1, 5);
    }

    private static void errorsOfHighAndCoats() {
        textError("high", 1, 4);
        textError("high  ", 1, 6);
        textError("high;", 1, 4);
        textError("high left;", 1, 5);
        textError("high 4", 1, 6);
        textError("high 4\n", 1, 7);
        textError("high 4 4;", 1, 7);
        textError("high 4(;", 1, 6);
        textError("high 0;", 2, 5);
        textError("high 9;", 2, 5);
        textError("high 999;", 2, 5);
        textError("high 0004;", 1, 5);
        textError("high 4;high 4;", 3, 7);
        textError("high 4;coats 4; high", 3, 16);
        textError("high 4;high high", 3, 7);
        textError("coats 0;", 2, 6);
        textError("coats 100;", 2, 6);
        textError("coats 0100;", 1, 6);
        textError("coats;", 1, 5);
        textError("coats 9 high 4;", 1, 8);
        textError("coats 1;slat 1;coats 1;", 3, 15);
        Check.same("lowest high", Blinds.of("high 1;").setting(1), 1);
        Check.same("highest high", Blinds.of("high 8;").setting(1), 8);
        Check.same("lowest coats", Blinds.of("coats 1;").setting(5), 1);
        Check.same("highest coats", Blinds.of("coats 99;").setting(5), 99);
    }

    private static void errorsOfSlats() {
        textError("slat", 1, 4);
        textError("slat;", 1, 4);
        textError("slat 0;", 2, 5);
        textError("slat 7;", 2, 5);
        textError("slat 0006;", 1, 5);
        textError("slat 1", 1, 6);
        textError("slat 1 2;", 1, 7);
        textError("slat 1 slat 2;", 1, 7);
        textError("slat 1 left", 1, 11);
        textError("slat 1 left;", 1, 11);
        textError("slat 1 left 5;", 2, 12);
        textError("slat 1 right 5;", 2, 13);
        textError("slat 1 right 4", 1, 14);
        textError("slat 1 right 4 left 1;", 1, 15);
        textError("slat 1 left right 1;", 1, 12);
        textError(many("slat 1;", 10) + " slat 1;", 5, 71);
        textError(many("slat 1;", 10) + "slat", 5, 70);
        textError(many("slat 1;", 10) + "slat 0;", 5, 70);
        Check.same("ten slats", Blinds.of(many("slat 1 left 4;", 10)).setting(0), 10);
    }

    private static void errorsOfBoxes() {
        textError("box", 1, 3);
        textError("box 0 0 1 1 1;", 1, 4);
        textError("box middle 0 0 1 1 1;", 1, 4);
        textError("box left", 1, 8);
        textError("box left;", 1, 8);
        textError("box left 0 0 1 1;", 1, 16);
        textError("box left 0 0 1 1 1", 1, 18);
        textError("box left 0 0 1 1 1 1;", 1, 19);
        textError("box left 64 0 1 1 1;", 2, 9);
        textError("box left 63 64 1 1 1;", 2, 12);
        textError("box left 63 63 0 1 1;", 2, 15);
        textError("box left 63 63 65 1 1;", 2, 15);
        textError("box left 63 63 64 0 1;", 2, 18);
        textError("box left 63 63 64 65 1;", 2, 18);
        textError("box left 63 63 64 64 0;", 2, 21);
        textError("box left 63 63 64 64 10;", 2, 21);
        String left = many("box left 0 0 1 1 1;", 16);
        textError(left + "box left 0 0 1 1 1;", 5, 304);
        textError(left + "box", 5, 304);
        String both = many("box left 0 0 1 1 1;box right 0 0 1 1 1;", 8);
        textError(both + "slat 1;box", 5, 319);
        Check.same("16 boxes", Blinds.of(left).setting(3), 16);
        Check.same("8 boxes and 8 boxes", Blinds.of(both).setting(4), 8);
        Check.same("the largest box",
                Blinds.of("box right 63 63 64 64 9;box left 0 0 1 1 1;").setting(4), 1);
    }

    private static void errorOfTheLatestCall() {
        BambooBlind blind = new BambooBlind();
        Blinds.feed(blind, "high 4;high");
        Check.noValue("a wrong text", blind::readText);
        Check.same("code of a wrong text", blind.errorCode(), 3);
        blind.feed(0, 0, 0, 0, 0);
        blind.truncate(0);
        blind.report(0);
        blind.save();
        blind.restore();
        Check.noValue("a wrong call", () -> blind.setting(10));
        Check.same("code behind other calls", blind.errorCode(), 3);
        Check.same("position behind other calls", blind.errorPosition(), 7);
        Blinds.feed(blind, "pull up");
        Check.noValue("a wrong script", blind::runScript);
        Check.same("code of a wrong script", blind.errorCode(), 1);
        Check.same("position of a wrong script", blind.errorPosition(), 5);
        Check.same("a right script", Blinds.run(blind, "pull left 1;"), 1);
        Check.same("code of a right script", blind.errorCode(), 0);
        Check.same("position of a right script", blind.errorPosition(), NONE);
        Blinds.feed(blind, "@");
        Check.noValue("a wrong text again", blind::readText);
        Check.same("a right text", Blinds.read(blind, "slat 1;"), 1);
        Check.same("code of a right text", blind.errorCode(), 0);
        Check.same("position of a right text", blind.errorPosition(), NONE);
    }

    private static void textError(String text, int code, int position) {
        BambooBlind blind = new BambooBlind();
        Blinds.feed(blind, text);
        Check.noValue("text " + text, blind::readText);
        Check.same("code of " + text, blind.errorCode(), code);
        Check.same("position of " + text, blind.errorPosition(), position);
    }

    private static String many(String text, int times) {
        return String.valueOf(text).repeat(times);
    }
}
