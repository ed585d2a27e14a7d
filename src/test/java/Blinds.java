/** Makes blinds from texts and tells what there is of them in one line. */
final class Blinds {
    private static final int FED_BYTES = 20;

    private Blinds() {
    }

    /** Feeds bytes (the characters 0 to 255 of a text) and truncates the last 20 to what is told. */
    static void feed(BambooBlind blind, String text) {
        int before = blind.feed(0, 0, 0, 0, 0) - FED_BYTES;
        blind.truncate(before);
        for (int from = 0; from < text.length(); from += FED_BYTES) {
            blind.feed(four(text, from), four(text, from + 4), four(text, from + 8),
                    four(text, from + 12), four(text, from + 16));
        }
        blind.truncate(before + text.length());
    }

    private static int four(String text, int from) {
        int bytes = 0;
        for (int i = from; i < from + 4; i++) {
            bytes = bytes << 8 | (i < text.length() ? text.charAt(i) : 0);
        }
        return bytes;
    }

    static BambooBlind of(String text) {
        BambooBlind blind = new BambooBlind();
        read(blind, text);
        return blind;
    }

    static int read(BambooBlind blind, String text) {
        feed(blind, text);
        return blind.readText();
    }

    static int run(BambooBlind blind, String script) {
        feed(blind, script);
        return blind.runScript();
    }

    /** The colours of a picture, its rows with a stroke between them. */
    static String picture(BambooBlind blind, boolean isRight) {
        int rows = blind.setting(1);
        int columns = blind.setting(2);
        StringBuilder colours = new StringBuilder();
        for (int row = 0; row < rows; row++) {
            colours.append(row == 0 ? "" : "/");
            for (int column = 0; column < columns; column++) {
                colours.append(blind.picture(isRight, column, row));
            }
        }
        return colours.toString();
    }

    /** The colours of a face, its rows with a stroke between them. */
    static String face(BambooBlind blind, int slat, boolean isRight) {
        int rows = blind.setting(1);
        int columns = blind.slat(slat, 0);
        StringBuilder colours = new StringBuilder();
        for (int row = 0; row < rows; row++) {
            colours.append(row == 0 ? "" : "/");
            for (int column = 0; column < columns; column++) {
                colours.append(blind.face(slat, isRight, column, row));
            }
        }
        return colours.toString();
    }

    /** What is seen from an angle, as the report tells it, its rows with a stroke between them. */
    static String seen(BambooBlind blind, int angle) {
        int rows = blind.setting(1);
        int columns = blind.setting(2);
        StringBuilder signs = new StringBuilder();
        for (int row = 0; row < rows; row++) {
            signs.append(row == 0 ? "" : "/");
            for (int column = 0; column < columns; column++) {
                int seen = blind.seen(angle, column, row);
                boolean isOpen = seen == BambooBlind.NONE;
                boolean isCovered = seen == BambooBlind.COVERED;
                signs.append(isOpen ? "." : isCovered ? "|" : String.valueOf(seen));
            }
        }
        return signs.toString();
    }

    /** A number of each slat. */
    static String ofSlats(BambooBlind blind, int what) {
        int slats = blind.setting(0);
        StringBuilder numbers = new StringBuilder();
        for (int slat = 0; slat < slats; slat++) {
            numbers.append(slat == 0 ? "" : " ").append(blind.slat(slat, what));
        }
        return numbers.toString();
    }

    /** All that can be asked of the slats, the faces and the pictures. */
    static String all(BambooBlind blind) {
        int slats = blind.setting(0);
        StringBuilder told = new StringBuilder();
        for (int what = 0; what <= 8; what++) {
            told.append(blind.setting(what)).append(' ');
        }
        told.append(picture(blind, false)).append(' ').append(picture(blind, true));
        for (int slat = 0; slat < slats; slat++) {
            for (int what = 0; what <= 7; what++) {
                told.append(' ').append(blind.slat(slat, what));
            }
            told.append(' ').append(face(blind, slat, false));
            told.append(' ').append(face(blind, slat, true));
        }
        return told.toString();
    }

    static String report(BambooBlind blind, int length) {
        StringBuilder bytes = new StringBuilder();
        for (int i = 0; i < length; i++) {
            bytes.append((char) blind.reportByte(i));
        }
        return bytes.toString();
    }
}
