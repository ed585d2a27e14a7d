/**
 * All that an object can be asked, and what it tells only when it is used further: how much its
 * buffer holds and what that reads as, what can be undone, and what is saved.
 */
final class State {
    private static final int BUFFER_BYTES = 600;
    private static final int FED_BYTES = 20;
    private static final int MOST_UNDONE = 9;

    private State() {
    }

    /** All of it; the object is used up then. */
    static String whole(BambooBlind blind) {
        StringBuilder told = new StringBuilder("error ");
        told.append(blind.errorCode()).append(' ').append(blind.errorPosition());
        told.append(" buffer ").append(bufferLength(blind));
        told.append(butTextAndError(blind));
        return told.append(" text ").append(textOfBuffer(blind)).toString();
    }

    /** All but the buffer and the error; what can be undone is used up then. */
    static String butTextAndError(BambooBlind blind) {
        StringBuilder told = new StringBuilder(" report ");
        told.append(report(blind));
        told.append(" now ").append(Blinds.all(blind));
        told.append(" changes ").append(blind.setting(9));
        for (int i = 0; i < MOST_UNDONE; i++) {
            int left = blind.undo();
            told.append(" undo ").append(left);
            if (left == BambooBlind.NONE) {
                break;
            }
            told.append(' ').append(Blinds.all(blind));
        }
        return told.append(" saved ").append(saved(blind)).toString();
    }

    /** The report, the error, what is saved and the buffer; all else is used up then. */
    static String butTheBlind(BambooBlind blind) {
        StringBuilder told = new StringBuilder("error ");
        told.append(blind.errorCode()).append(' ').append(blind.errorPosition());
        told.append(" buffer ").append(bufferLength(blind));
        told.append(" report ").append(report(blind));
        told.append(" saved ").append(saved(blind));
        return told.append(" text ").append(textOfBuffer(blind)).toString();
    }

    /** The bytes of the latest report, up to the first one that is refused. */
    static String report(BambooBlind blind) {
        StringBuilder bytes = new StringBuilder();
        try {
            for (int i = 0; i <= BUFFER_BYTES; i++) {
                bytes.append((char) blind.reportByte(i));
            }
        } catch (IndexOutOfBoundsException e) {
            bytes.append("end");
        }
        return bytes.toString();
    }

    static int bufferLength(BambooBlind blind) {
        try {
            int length = blind.feed(0, 0, 0, 0, 0) - FED_BYTES;
            return blind.truncate(length);
        } catch (IllegalStateException e) {
            return lengthOfNearlyFull(blind);
        }
    }

    private static int lengthOfNearlyFull(BambooBlind blind) {
        for (int length = BUFFER_BYTES; length > 0; length--) {
            int tried = length;
            if (Check.thrownBy(() -> blind.truncate(tried)).equals("nothing")) {
                return length;
            }
        }
        return 0;
    }

    private static String saved(BambooBlind blind) {
        try {
            int slats = blind.restore();
            return slats + " " + Blinds.all(blind);
        } catch (IllegalStateException e) {
            return "nothing";
        }
    }

    private static String textOfBuffer(BambooBlind blind) {
        try {
            int slats = blind.readText();
            return slats + " " + Blinds.all(blind);
        } catch (IllegalArgumentException e) {
            return "error " + blind.errorCode() + " " + blind.errorPosition();
        }
    }
}
