import java.util.Arrays;

/**
 * A blind of bamboo slats that shows one picture from the left and another one from the right.
 * The promises that it keeps are told in the document (../shared/DOC.md).
 *
 * <p>The colours of a column stand in one int, four bits for each of its rows (a colour is at most
 * 9, a column has at most 8 rows), so that two columns are compared at once. The bits of rows that
 * the blind has not are always 0.
 */
public final class BambooBlind {
    public static final int NONE = -1;
    public static final int COVERED = -2;
    public static final int NOWHERE = -99;

    private static final int MOST_SLATS = 10;
    private static final int MOST_WIDTH = 6;
    private static final int MOST_COLUMNS = MOST_SLATS * MOST_WIDTH;
    private static final int MOST_ROWS = 8;
    private static final int MOST_BOXES = 16;
    private static final int MOST_COLOUR = 9;
    private static final int COLOUR_BITS = 4;
    private static final int COLOUR_MASK = 15;
    private static final int LOWEST_BITS = 0x11111111;
    private static final int MOST_TURN = 4;
    private static final int MOST_ANGLE = 6;
    private static final int ANGLES = 2 * MOST_ANGLE + 1;
    private static final int MOST_PULL = 8;
    private static final int BUFFER_BYTES = 600;
    private static final int FED_BYTES = 20;
    private static final int REPORT_BYTES = MOST_ROWS * (MOST_COLUMNS + 1);

    // What speaks against a call, in the order in which exceptions are thrown.
    private static final int FINE = 0;
    private static final int NO_PLACE = 1;
    private static final int NO_VALUE = 2;
    private static final int NO_STATE = 3;
    private static final int NO_CHANGE = 4;

    private final Source source = new Source();
    private final TextReader texts = new TextReader(source);
    private final Script script = new Script(source);
    private final Blind now = new Blind();
    private final Blind saved = new Blind();
    private final History history = new History();
    private final View view = new View(now);
    private final int[] trial = new int[MOST_SLATS];
    private final byte[] reportBytes = new byte[REPORT_BYTES];
    private int reportLength;
    private int commandsDone;
    private boolean hasSaved;

    public BambooBlind() {
    }

    // ---- texts

    public int feed(int a, int b, int c, int d, int e) throws IllegalStateException {
        if (source.length + FED_BYTES > BUFFER_BYTES) {
            throw new IllegalStateException("the buffer would exceed 600 bytes");
        }
        source.append(a);
        source.append(b);
        source.append(c);
        source.append(d);
        source.append(e);
        return source.length;
    }

    public int truncate(int n) throws IllegalArgumentException {
        if (n < 0 || n > source.length) {
            throw new IllegalArgumentException("no such length of the buffer");
        }
        source.length = n;
        return n;
    }

    public int readText() throws IllegalArgumentException {
        boolean isRead = texts.read();
        source.length = 0;
        if (!isRead) {
            throw new IllegalArgumentException("the text has an error");
        }
        now.copyFrom(texts.draft);
        history.forget();
        return now.slats;
    }

    public int runScript() throws IllegalArgumentException {
        boolean isRead = script.read();
        source.length = 0;
        if (!isRead) {
            throw new IllegalArgumentException("the script has an error");
        }
        history.keep(now);
        commandsDone = 0;
        runCommands(0, script.size, 0);
        return commandsDone;
    }

    public int errorCode() {
        return source.errorCode;
    }

    public int errorPosition() {
        return source.errorPosition;
    }

    // ---- what is there

    public int setting(int what) throws IllegalArgumentException {
        switch (what) {
            case 0:
                return now.slats;
            case 1:
                return now.rows;
            case 2:
                return now.columns;
            case 3:
                return now.leftBoxes;
            case 4:
                return now.rightBoxes;
            case 5:
                return now.coatLimit;
            case 6:
                return Integer.bitCount(now.tiedSlats);
            case 7:
                return now.coveringSeams();
            case 8:
                return now.openingSeams();
            case 9:
                return history.count;
            default:
                throw new IllegalArgumentException("no such setting");
        }
    }

    public int slat(int slat, int what) throws IndexOutOfBoundsException, IllegalArgumentException {
        refuse(now.hasSlat(slat) ? FINE : NO_PLACE);
        switch (what) {
            case 0:
                return now.width[slat];
            case 1:
                return now.first[slat];
            case 2:
                return now.turn[slat];
            case 3:
                return now.isTied(slat) ? 1 : 0;
            case 4:
                return now.leftCoats[slat];
            case 5:
                return now.rightCoats[slat];
            case 6:
                return now.unlikePicture(slat, false);
            case 7:
                return now.unlikePicture(slat, true);
            default:
                throw new IllegalArgumentException("no such number of a slat");
        }
    }

    public int slatAt(int column) throws IndexOutOfBoundsException {
        refuse(now.hasColumn(column) ? FINE : NO_PLACE);
        return now.slatWith(column);
    }

    public int picture(boolean isRight, int column, int row) throws IndexOutOfBoundsException {
        refuse(now.hasCell(column, row) ? FINE : NO_PLACE);
        return colourIn(now.pictureOf(isRight)[column], row);
    }

    public int face(int slat, boolean isRight, int column, int row)
            throws IndexOutOfBoundsException {
        refuse(now.hasFaceCell(slat, column, row) ? FINE : NO_PLACE);
        return colourIn(now.faceOf(isRight)[now.first[slat] + column], row);
    }

    public int common() {
        int cells = now.cells();
        for (int column = 0; column < now.columns; column++) {
            cells -= unlikeRows(now.leftPicture[column], now.rightPicture[column]);
        }
        return cells;
    }

    // ---- what is seen

    public int seen(int angle, int column, int row)
            throws IndexOutOfBoundsException, IllegalArgumentException {
        refuse(now.hasCell(column, row) ? angleProblem(angle) : NO_PLACE);
        view.look(now.turn, angle);
        return view.seenAt(column, row);
    }

    public int why(int angle, boolean isRight, int column, int row)
            throws IndexOutOfBoundsException, IllegalArgumentException {
        refuse(now.hasCell(column, row) ? angleProblem(angle) : NO_PLACE);
        view.look(now.turn, angle);
        return view.whyNotRight(isRight, column, row);
    }

    public int right(int angle, boolean isRight) throws IllegalArgumentException {
        refuse(angleProblem(angle));
        return rightFrom(angle, isRight);
    }

    public int open(int angle) throws IllegalArgumentException {
        refuse(angleProblem(angle));
        return openFrom(angle);
    }

    public int covered(int angle) throws IllegalArgumentException {
        refuse(angleProblem(angle));
        view.look(now.turn, angle);
        return view.columnsWith(View.COVERED_BY_SEAM) * now.rows;
    }

    public int whole(int angle) throws IllegalArgumentException {
        refuse(angleProblem(angle));
        view.look(now.turn, angle);
        return (view.isWhole(false) ? 1 : 0) + (view.isWhole(true) ? 2 : 0);
    }

    public int firstWrong(int angle, boolean isRight) throws IllegalArgumentException {
        refuse(angleProblem(angle));
        view.look(now.turn, angle);
        return view.firstNotRight(isRight);
    }

    public int shownFrom(int column) throws IndexOutOfBoundsException {
        refuse(now.hasColumn(column) ? FINE : NO_PLACE);
        int angles = 0;
        for (int k = 0; k < ANGLES; k++) {
            view.look(now.turn, k - MOST_ANGLE);
            if (view.isShown(column)) {
                angles |= 1 << k;
            }
        }
        return angles;
    }

    public int bestAngle(boolean isRight) {
        int best = NOWHERE;
        int most = -1;
        for (int angle = -MOST_ANGLE; angle <= MOST_ANGLE && now.columns > 0; angle++) {
            int cells = rightFrom(angle, isRight);
            if (cells > most) {
                most = cells;
                best = angle;
            }
        }
        return best;
    }

    public int seam(int slat) throws IndexOutOfBoundsException {
        refuse(now.hasSlat(slat) ? FINE : NO_PLACE);
        return now.seamBehind(slat);
    }

    public int run(int angle) throws IllegalArgumentException {
        refuse(angleProblem(angle));
        view.look(now.turn, angle);
        return view.mostShownTogether();
    }

    public int worstSlat(int angle, boolean isRight) throws IllegalArgumentException {
        refuse(angleProblem(angle));
        view.look(now.turn, angle);
        int worst = NONE;
        int most = 0;
        for (int slat = 0; slat < now.slats; slat++) {
            int wrong = now.width[slat] * now.rows - view.rightOfSlat(slat, isRight);
            if (wrong > most) {
                most = wrong;
                worst = slat;
            }
        }
        return worst;
    }

    public int ghosts(int angle, boolean isRight) throws IllegalArgumentException {
        refuse(angleProblem(angle));
        view.look(now.turn, angle);
        return view.ghostCells(isRight);
    }

    public int paintable(boolean isRight) {
        int slats = 0;
        for (int slat = 0; slat < now.slats; slat++) {
            if (now.bearsCoat(slat, isRight) && now.unlikePicture(slat, isRight) > 0) {
                slats |= 1 << slat;
            }
        }
        return slats;
    }

    public int span(boolean isRight) {
        int most = 0;
        int angles = 0;
        for (int angle = -MOST_ANGLE; angle <= MOST_ANGLE; angle++) {
            view.look(now.turn, angle);
            angles = view.isWhole(isRight) ? angles + 1 : 0;
            most = Math.max(most, angles);
        }
        return most;
    }

    public float light(int angle) throws IllegalArgumentException {
        refuse(angleProblem(angle));
        int cells = now.cells();
        if (cells <= 0) {
            return 0.0f;
        }
        return (float) openFrom(angle) / (float) cells;
    }

    public double meanRight(boolean isRight) {
        int sum = 0;
        for (int angle = -MOST_ANGLE; angle <= MOST_ANGLE; angle++) {
            sum += rightFrom(angle, isRight);
        }
        return (double) sum / (double) ANGLES;
    }

    public int lightest() {
        int best = NOWHERE;
        int most = -1;
        for (int angle = -MOST_ANGLE; angle <= MOST_ANGLE && now.columns > 0; angle++) {
            int cells = openFrom(angle);
            if (cells > most) {
                most = cells;
                best = angle;
            }
        }
        return best;
    }

    // ---- what would be; nothing changes by asking

    public int bestTurn(int slat, int angle, boolean isRight)
            throws IndexOutOfBoundsException, IllegalArgumentException {
        refuse(now.hasSlat(slat) ? angleProblem(angle) : NO_PLACE);
        System.arraycopy(now.turn, 0, trial, 0, MOST_SLATS);
        int best = -MOST_TURN;
        int most = -1;
        for (int to = -MOST_TURN; to <= MOST_TURN; to++) {
            trial[slat] = to;
            int cells = rightOfTrial(angle, isRight);
            if (cells > most) {
                most = cells;
                best = to;
            }
        }
        return best;
    }

    public int bestPull(int angle, boolean isRight) throws IllegalArgumentException {
        refuse(angleProblem(angle));
        int best = 0;
        int most = rightFrom(angle, isRight);
        for (int steps = 1; steps <= MOST_PULL; steps++) {
            int toTheLeft = rightAfterPull(-steps, angle, isRight);
            if (toTheLeft > most) {
                most = toTheLeft;
                best = -steps;
            }
            int toTheRight = rightAfterPull(steps, angle, isRight);
            if (toTheRight > most) {
                most = toTheRight;
                best = steps;
            }
        }
        return best;
    }

    public int dabs(int angle, boolean isRight) throws IllegalArgumentException {
        refuse(angleProblem(angle));
        view.look(now.turn, angle);
        if (now.columns == 0 || view.columnsWith(View.SHOWN) < now.columns) {
            return NONE;
        }
        return now.cells() - view.rightCells(isRight, 0, now.columns);
    }

    public int turnsNeeded(int angle, boolean isRight) throws IllegalArgumentException {
        refuse(angleProblem(angle));
        // Where two turns differ, the seam hides or opens a column: a picture is seen whole only
        // with one turn of all slats, so that just the slats with another one have to be turned.
        int fewest = NONE;
        for (int to = -MOST_TURN; to <= MOST_TURN; to++) {
            int needed = now.turnsTo(to);
            Arrays.fill(trial, to);
            view.look(trial, angle);
            boolean isFewer = fewest == NONE || needed < fewest;
            if (needed != NONE && isFewer && view.isWhole(isRight)) {
                fewest = needed;
            }
        }
        return fewest;
    }

    public int fairest(int angle) throws IllegalArgumentException {
        refuse(angleProblem(angle));
        int best = -MOST_TURN;
        int most = -1;
        for (int to = -MOST_TURN; to <= MOST_TURN; to++) {
            Arrays.fill(trial, to);
            int cells = rightOfTrial(angle, false) + rightOfTrial(-angle, true);
            if (cells > most) {
                most = cells;
                best = to;
            }
        }
        return best;
    }

    // ---- changes

    public int pull(int by) throws IllegalArgumentException {
        refuse(pullProblem(by));
        history.keep(now);
        return now.pullCord(by);
    }

    public int turn(int slat, int to)
            throws IndexOutOfBoundsException, IllegalArgumentException, IllegalStateException {
        refuse(turnProblem(slat, to));
        history.keep(now);
        int before = now.turn[slat];
        now.turn[slat] = to;
        return before;
    }

    public boolean tie(int slat, boolean isOn) throws IndexOutOfBoundsException {
        int problem = tieProblem(slat, isOn);
        refuse(problem);
        if (problem == NO_CHANGE) {
            return false;
        }
        history.keep(now);
        now.setTied(slat, isOn);
        return true;
    }

    public int paint(int slat, boolean isRight)
            throws IndexOutOfBoundsException, IllegalStateException {
        refuse(paintProblem(slat, isRight));
        history.keep(now);
        return now.paintFace(slat, isRight);
    }

    public int dab(int slat, boolean isRight, int column, int row, int colour)
            throws IndexOutOfBoundsException, IllegalArgumentException {
        refuse(dabProblem(slat, column, row, colour));
        history.keep(now);
        return now.dabCell(slat, isRight, column, row, colour);
    }

    public int swap(int slat) throws IndexOutOfBoundsException {
        refuse(swapProblem(slat));
        history.keep(now);
        return now.swapFaces(slat);
    }

    public int spot(boolean isRight, int column, int row, int colour)
            throws IndexOutOfBoundsException, IllegalArgumentException, IllegalStateException {
        refuse(spotProblem(column, row, colour));
        history.keep(now);
        return now.addSpot(isRight, column, row, colour);
    }

    // ---- reports, undo, a saved state

    public int report(int angle) throws IllegalArgumentException {
        refuse(angleProblem(angle));
        view.look(now.turn, angle);
        reportLength = 0;
        for (int row = 0; row < now.rows; row++) {
            for (int column = 0; column < now.columns; column++) {
                reportSign(signOf(view.seenAt(column, row)));
            }
            reportSign('\n');
        }
        return reportLength;
    }

    public int reportByte(int i) throws IndexOutOfBoundsException {
        if (i < 0 || i >= reportLength) {
            throw new IndexOutOfBoundsException("no such byte of the report");
        }
        return reportBytes[i];
    }

    public int undo() {
        return history.takeBack(now) ? history.count : NONE;
    }

    public int save() {
        saved.copyFrom(now);
        hasSaved = true;
        return now.slats;
    }

    public int restore() throws IllegalStateException {
        if (!hasSaved) {
            throw new IllegalStateException("nothing was saved");
        }
        now.copyFrom(saved);
        history.forget();
        return now.slats;
    }

    // ---- what speaks against a call

    private static void refuse(int problem) {
        if (problem == NO_PLACE) {
            throw new IndexOutOfBoundsException("no such slat, column or row");
        }
        if (problem == NO_VALUE) {
            throw new IllegalArgumentException("out of range");
        }
        if (problem == NO_STATE) {
            throw new IllegalStateException("not in this state");
        }
    }

    private static int angleProblem(int angle) {
        return angle < -MOST_ANGLE || angle > MOST_ANGLE ? NO_VALUE : FINE;
    }

    private static int pullProblem(int by) {
        return by < -MOST_PULL || by > MOST_PULL || by == 0 ? NO_VALUE : FINE;
    }

    private int turnProblem(int slat, int to) {
        if (!now.hasSlat(slat)) {
            return NO_PLACE;
        }
        if (to < -MOST_TURN || to > MOST_TURN) {
            return NO_VALUE;
        }
        return now.isTied(slat) ? NO_STATE : FINE;
    }

    private int tieProblem(int slat, boolean isOn) {
        if (!now.hasSlat(slat)) {
            return NO_PLACE;
        }
        return now.isTied(slat) == isOn ? NO_CHANGE : FINE;
    }

    private int paintProblem(int slat, boolean isRight) {
        if (!now.hasSlat(slat)) {
            return NO_PLACE;
        }
        return now.bearsCoat(slat, isRight) ? FINE : NO_STATE;
    }

    private int dabProblem(int slat, int column, int row, int colour) {
        return now.hasFaceCell(slat, column, row) ? colourProblem(colour) : NO_PLACE;
    }

    private int swapProblem(int slat) {
        return now.hasSlat(slat) ? FINE : NO_PLACE;
    }

    private int spotProblem(int column, int row, int colour) {
        int problem = now.hasCell(column, row) ? colourProblem(colour) : NO_PLACE;
        if (problem != FINE) {
            return problem;
        }
        return now.leftBoxes + now.rightBoxes >= MOST_BOXES ? NO_STATE : FINE;
    }

    private static int colourProblem(int colour) {
        return colour < 0 || colour > MOST_COLOUR ? NO_VALUE : FINE;
    }

    // ---- scripts

    /** Runs the commands from one up to another; tells whether the script goes on behind them. */
    private boolean runCommands(int from, int to, int depth) {
        boolean goesOn = true;
        int next = from;
        for (int i = 0; i < Script.MOST_COMMANDS && next < to && goesOn; i++) {
            if (script.verb[next] == Script.REPEAT) {
                goesOn = runRepeat(next, depth + 1);
                next = script.behind[next];
            } else {
                goesOn = doCommand(next);
                next++;
            }
        }
        return goesOn;
    }

    private boolean runRepeat(int command, int depth) {
        int times = script.number[command][0];
        boolean goesOn = depth <= Script.MOST_DEPTH;
        for (int time = 0; time < times && goesOn; time++) {
            goesOn = runCommands(command + 1, script.behind[command], depth);
        }
        return goesOn;
    }

    private int commandProblem(int command) {
        int[] number = script.number[command];
        boolean isRight = script.isRight[command];
        switch (script.verb[command]) {
            case Script.PULL:
                return pullProblem(toSide(number[0], isRight));
            case Script.TURN:
                return turnProblem(number[0], toSide(number[1], isRight));
            case Script.TIE:
                return tieProblem(number[0], true);
            case Script.FREE:
                return tieProblem(number[0], false);
            case Script.PAINT:
                return paintProblem(number[0], isRight);
            case Script.DAB:
                return dabProblem(number[0], number[1], number[2], number[3]);
            default:
                return swapProblem(number[0]);
        }
    }

    /** Does a command; tells whether the script goes on behind it. */
    private boolean doCommand(int command) {
        if (commandProblem(command) != FINE) {
            return false;
        }
        int[] number = script.number[command];
        boolean isRight = script.isRight[command];
        switch (script.verb[command]) {
            case Script.PULL:
                now.pullCord(toSide(number[0], isRight));
                break;
            case Script.TURN:
                now.turn[number[0]] = toSide(number[1], isRight);
                break;
            case Script.TIE:
                now.setTied(number[0], true);
                break;
            case Script.FREE:
                now.setTied(number[0], false);
                break;
            case Script.PAINT:
                now.paintFace(number[0], isRight);
                break;
            case Script.DAB:
                now.dabCell(number[0], isRight, number[1], number[2], number[3]);
                break;
            default:
                now.swapFaces(number[0]);
                break;
        }
        commandsDone++;
        return commandsDone < Script.MOST_DONE;
    }

    private static int toSide(int steps, boolean isRight) {
        return isRight ? steps : -steps;
    }

    // ---- counts of cells

    private int rightFrom(int angle, boolean isRight) {
        view.look(now.turn, angle);
        return view.rightCells(isRight, 0, now.columns);
    }

    private int rightOfTrial(int angle, boolean isRight) {
        view.look(trial, angle);
        return view.rightCells(isRight, 0, now.columns);
    }

    private int rightAfterPull(int by, int angle, boolean isRight) {
        for (int slat = 0; slat < now.slats; slat++) {
            trial[slat] = now.turnAfterPull(slat, by);
        }
        return rightOfTrial(angle, isRight);
    }

    private int openFrom(int angle) {
        view.look(now.turn, angle);
        int columns = view.columnsWith(View.OPEN_BY_SEAM) + view.columnsWith(View.OPEN_BY_LEAN);
        return columns * now.rows;
    }

    // ---- the report

    private static char signOf(int seen) {
        if (seen == NONE) {
            return '.';
        }
        return seen == COVERED ? '|' : (char) ('0' + seen);
    }

    private void reportSign(char sign) {
        if (reportLength < REPORT_BYTES) {
            reportBytes[reportLength] = (byte) sign;
            reportLength++;
        }
    }

    // ---- the colours of a column in one int

    private static int colourIn(int column, int row) {
        return (column >>> (COLOUR_BITS * row)) & COLOUR_MASK;
    }

    private static int withColour(int column, int row, int colour) {
        int shift = COLOUR_BITS * row;
        return (column & ~(COLOUR_MASK << shift)) | (colour << shift);
    }

    /** The lowest bit of each row in which two columns have other colours. */
    private static int unlikeBits(int column, int other) {
        int bits = column ^ other;
        return (bits | (bits >>> 1) | (bits >>> 2) | (bits >>> 3)) & LOWEST_BITS;
    }

    private static int unlikeRows(int column, int other) {
        return Integer.bitCount(unlikeBits(column, other));
    }

    /** The buffer, its tokens one by one, and the error that was found in them. */
    private static final class Source {
        static final int MOST_LETTERS = 8;
        static final int MOST_DIGITS = 3;

        // The kinds of tokens; the kind of a single character is this character.
        static final int END = 0;
        static final int INVALID = 1;
        static final int WORD = 2;
        static final int NUMBER = 3;

        // The codes of errors.
        static final int NOT_ALLOWED = 1;
        static final int OUT_OF_RANGE = 2;
        static final int TOO_OFTEN = 3;
        static final int TOO_MANY = 5;

        final byte[] bytes = new byte[BUFFER_BYTES];
        int length;
        int kind;
        int start;
        int end;
        int number;
        int errorCode;
        int errorPosition = NONE;

        void append(int four) {
            for (int shift = 24; shift >= 0 && length < BUFFER_BYTES; shift -= 8) {
                bytes[length] = (byte) (four >>> shift);
                length++;
            }
        }

        void begin() {
            errorCode = 0;
            errorPosition = NONE;
            end = 0;
            advance();
        }

        void advance() {
            start = end;
            while (start < length && (bytes[start] == ' ' || bytes[start] == '\n')) {
                start++;
            }
            int behindLetters = endOfRun('a', 'z');
            int behindDigits = endOfRun('0', '9');
            if (start >= length) {
                end = start;
                kind = END;
            } else if (behindLetters > start) {
                end = behindLetters;
                kind = end - start <= MOST_LETTERS ? WORD : INVALID;
            } else if (behindDigits > start) {
                end = behindDigits;
                kind = end - start <= MOST_DIGITS ? NUMBER : INVALID;
                number = kind == NUMBER ? numberHere() : 0;
            } else {
                end = start + 1;
                kind = isSign(bytes[start]) ? bytes[start] : INVALID;
            }
        }

        private static boolean isSign(int sign) {
            return sign == ';' || sign == '(' || sign == ')';
        }

        /** Where the run of signs from the least to the most one ends that begins here. */
        private int endOfRun(char least, char most) {
            int i = start;
            while (i < length && bytes[i] >= least && bytes[i] <= most) {
                i++;
            }
            return i;
        }

        private int numberHere() {
            int value = 0;
            for (int i = start; i < end; i++) {
                value = 10 * value + bytes[i] - '0';
            }
            return value;
        }

        boolean isAtEnd() {
            return kind == END;
        }

        boolean isAtSign(char sign) {
            return kind == sign;
        }

        boolean isAtWord(String word) {
            if (kind != WORD || end - start != word.length()) {
                return false;
            }
            for (int i = 0; i < word.length(); i++) {
                if (bytes[start + i] != word.charAt(i)) {
                    return false;
                }
            }
            return true;
        }

        /** Tells an error at the present token; answers false, for the caller to pass on. */
        boolean fail(int code) {
            errorCode = code;
            errorPosition = start;
            return false;
        }

        boolean takeSign(char sign) {
            if (!isAtSign(sign)) {
                return fail(NOT_ALLOWED);
            }
            advance();
            return true;
        }

        /** Takes a number; NONE with an error. */
        int takeNumber(int least, int most) {
            if (kind != NUMBER) {
                fail(NOT_ALLOWED);
                return NONE;
            }
            if (number < least || number > most) {
                fail(OUT_OF_RANGE);
                return NONE;
            }
            int taken = number;
            advance();
            return taken;
        }

        /** Takes a side: 0 the left one, 1 the right one; NONE with an error. */
        int takeSide() {
            boolean isRight = isAtWord("right");
            if (!isRight && !isAtWord("left")) {
                fail(NOT_ALLOWED);
                return NONE;
            }
            advance();
            return isRight ? 1 : 0;
        }
    }

    /** Reads a text into a draft, since the blind stays as it is if the text has an error. */
    private static final class TextReader {
        static final int MOST_COATS = 99;
        static final int MOST_PLACE = 63;
        static final int MOST_SIZE = 64;

        final Source source;
        final Blind draft = new Blind();
        boolean isHighTold;
        boolean isCoatsTold;
        int boxes;
        final boolean[] isRight = new boolean[MOST_BOXES];
        final int[] column = new int[MOST_BOXES];
        final int[] row = new int[MOST_BOXES];
        final int[] columns = new int[MOST_BOXES];
        final int[] rows = new int[MOST_BOXES];
        final int[] colour = new int[MOST_BOXES];

        TextReader(Source source) {
            this.source = source;
        }

        boolean read() {
            draft.clear();
            isHighTold = false;
            isCoatsTold = false;
            boxes = 0;
            source.begin();
            // A statement has some byte at least.
            for (int i = 0; i < BUFFER_BYTES && !source.isAtEnd(); i++) {
                if (!readStatement()) {
                    return false;
                }
            }
            // Slats and "high" may be told behind the boxes.
            drawBoxes();
            draft.paintAll();
            return true;
        }

        private boolean readStatement() {
            if (source.isAtWord("high")) {
                return readHigh();
            }
            if (source.isAtWord("slat")) {
                return readSlat();
            }
            if (source.isAtWord("box")) {
                return readBox();
            }
            if (source.isAtWord("coats")) {
                return readCoats();
            }
            return source.fail(Source.NOT_ALLOWED);
        }

        private boolean readHigh() {
            if (isHighTold) {
                return source.fail(Source.TOO_OFTEN);
            }
            isHighTold = true;
            source.advance();
            int told = source.takeNumber(1, MOST_ROWS);
            if (told == NONE) {
                return false;
            }
            draft.rows = told;
            return source.takeSign(';');
        }

        private boolean readCoats() {
            if (isCoatsTold) {
                return source.fail(Source.TOO_OFTEN);
            }
            isCoatsTold = true;
            source.advance();
            int told = source.takeNumber(1, MOST_COATS);
            if (told == NONE) {
                return false;
            }
            draft.coatLimit = told;
            return source.takeSign(';');
        }

        private boolean readSlat() {
            if (draft.slats >= MOST_SLATS) {
                return source.fail(Source.TOO_MANY);
            }
            source.advance();
            int width = source.takeNumber(1, MOST_WIDTH);
            if (width == NONE) {
                return false;
            }
            if (source.isAtSign(';')) {
                draft.addSlat(width, 0);
                return source.takeSign(';');
            }
            int side = source.takeSide();
            if (side == NONE) {
                return false;
            }
            int steps = source.takeNumber(0, MOST_TURN);
            if (steps == NONE) {
                return false;
            }
            draft.addSlat(width, toSide(steps, side == 1));
            return source.takeSign(';');
        }

        private boolean readBox() {
            if (boxes >= MOST_BOXES) {
                return source.fail(Source.TOO_MANY);
            }
            source.advance();
            int side = source.takeSide();
            if (side == NONE) {
                return false;
            }
            isRight[boxes] = side == 1;
            boolean isTold = readInto(column, 0, MOST_PLACE)
                    && readInto(row, 0, MOST_PLACE)
                    && readInto(columns, 1, MOST_SIZE)
                    && readInto(rows, 1, MOST_SIZE)
                    && readInto(colour, 1, MOST_COLOUR);
            if (!isTold) {
                return false;
            }
            boxes++;
            draft.countBox(side == 1);
            return source.takeSign(';');
        }

        /** Reads a number of the box that is being told. */
        private boolean readInto(int[] numbers, int least, int most) {
            int told = source.takeNumber(least, most);
            if (told == NONE || boxes >= numbers.length) {
                return false;
            }
            numbers[boxes] = told;
            return true;
        }

        private void drawBoxes() {
            for (int box = 0; box < boxes; box++) {
                int[] picture = draft.pictureOf(isRight[box]);
                int behind = Math.min(draft.columns, column[box] + columns[box]);
                for (int k = column[box]; k < behind; k++) {
                    picture[k] = drawnOver(picture[k], box);
                }
            }
        }

        private int drawnOver(int under, int box) {
            int drawn = under;
            int behind = Math.min(draft.rows, row[box] + rows[box]);
            for (int k = row[box]; k < behind; k++) {
                drawn = withColour(drawn, k, colour[box]);
            }
            return drawn;
        }
    }

    /** The commands of a script, in the order of their first words. */
    private static final class Script {
        static final int MOST_COMMANDS = 30;
        static final int MOST_DONE = 40;
        static final int MOST_DEPTH = 2;
        static final int MOST_TIMES = 20;
        static final int MOST_NUMBER = 999;
        static final int MOST_NUMBERS = 4;

        static final int PULL = 0;
        static final int TURN = 1;
        static final int TIE = 2;
        static final int FREE = 3;
        static final int PAINT = 4;
        static final int DAB = 5;
        static final int SWAP = 6;
        static final int REPEAT = 7;

        final Source source;
        int size;
        final int[] verb = new int[MOST_COMMANDS];
        final boolean[] isRight = new boolean[MOST_COMMANDS];
        final int[][] number = new int[MOST_COMMANDS][MOST_NUMBERS];
        // Of a "repeat": the command behind its parentheses.
        final int[] behind = new int[MOST_COMMANDS];
        // The "repeat" commands whose parentheses are open.
        final int[] unclosed = new int[MOST_DEPTH];
        int depth;

        Script(Source source) {
            this.source = source;
        }

        boolean read() {
            size = 0;
            depth = 0;
            source.begin();
            // A command, and the end of a "repeat", has some byte at least.
            for (int i = 0; i < BUFFER_BYTES && !(source.isAtEnd() && depth == 0); i++) {
                boolean isClosing = depth > 0 && source.isAtSign(')');
                if (!(isClosing ? closeRepeat() : readCommand())) {
                    return false;
                }
            }
            return true;
        }

        private boolean readCommand() {
            int told = verbHere();
            if (told == NONE) {
                return source.fail(Source.NOT_ALLOWED);
            }
            if (told == REPEAT && depth >= MOST_DEPTH) {
                return source.fail(Source.TOO_OFTEN);
            }
            if (size >= MOST_COMMANDS) {
                return source.fail(Source.TOO_MANY);
            }
            source.advance();
            int command = size;
            size++;
            verb[command] = told;
            if (told == REPEAT) {
                return openRepeat(command);
            }
            return readParts(command, partsOf(told)) && source.takeSign(';');
        }

        private int verbHere() {
            for (int told = PULL; told <= REPEAT; told++) {
                if (source.isAtWord(wordOf(told))) {
                    return told;
                }
            }
            return NONE;
        }

        private static String wordOf(int verb) {
            switch (verb) {
                case PULL:
                    return "pull";
                case TURN:
                    return "turn";
                case TIE:
                    return "tie";
                case FREE:
                    return "free";
                case PAINT:
                    return "paint";
                case DAB:
                    return "dab";
                case SWAP:
                    return "swap";
                default:
                    return "repeat";
            }
        }

        /** What stands behind the word of a command: N a number, S a side. */
        private static String partsOf(int verb) {
            switch (verb) {
                case PULL:
                    return "SN";
                case TURN:
                    return "NSN";
                case PAINT:
                    return "NS";
                case DAB:
                    return "NSNNN";
                default:
                    return "N";
            }
        }

        private boolean readParts(int command, String parts) {
            int numbers = 0;
            for (int i = 0; i < parts.length(); i++) {
                boolean isSide = parts.charAt(i) == 'S';
                int told = isSide ? source.takeSide() : source.takeNumber(0, MOST_NUMBER);
                if (told == NONE) {
                    return false;
                }
                if (isSide) {
                    isRight[command] = told == 1;
                } else if (numbers < MOST_NUMBERS) {
                    number[command][numbers] = told;
                    numbers++;
                }
            }
            return true;
        }

        private boolean openRepeat(int command) {
            int times = source.takeNumber(1, MOST_TIMES);
            if (times == NONE || depth >= MOST_DEPTH) {
                return false;
            }
            number[command][0] = times;
            unclosed[depth] = command;
            depth++;
            return source.takeSign('(');
        }

        private boolean closeRepeat() {
            source.advance();
            depth--;
            behind[unclosed[depth]] = size;
            return source.takeSign(';');
        }
    }

    /** All that is saved and undone: the slats, their faces and the two pictures. */
    private static final class Blind {
        static final int ROWS_UNTOLD = 4;
        static final int COATS_UNTOLD = 9;

        int rows = ROWS_UNTOLD;
        int coatLimit = COATS_UNTOLD;
        int slats;
        int columns;
        int leftBoxes;
        int rightBoxes;
        // Bit k for slat k.
        int tiedSlats;
        final int[] width = new int[MOST_SLATS];
        final int[] first = new int[MOST_SLATS];
        final int[] turn = new int[MOST_SLATS];
        final int[] leftCoats = new int[MOST_SLATS];
        final int[] rightCoats = new int[MOST_SLATS];
        // By columns of the blind. Of the boxes only what they draw is kept: a spot, the one box
        // that comes later, has one cell and lies on all others.
        final int[] leftPicture = new int[MOST_COLUMNS];
        final int[] rightPicture = new int[MOST_COLUMNS];
        final int[] leftFace = new int[MOST_COLUMNS];
        final int[] rightFace = new int[MOST_COLUMNS];

        void clear() {
            rows = ROWS_UNTOLD;
            coatLimit = COATS_UNTOLD;
            slats = 0;
            columns = 0;
            leftBoxes = 0;
            rightBoxes = 0;
            tiedSlats = 0;
            Arrays.fill(leftPicture, 0);
            Arrays.fill(rightPicture, 0);
        }

        void paintAll() {
            System.arraycopy(leftPicture, 0, leftFace, 0, MOST_COLUMNS);
            System.arraycopy(rightPicture, 0, rightFace, 0, MOST_COLUMNS);
        }

        void copyFrom(Blind other) {
            rows = other.rows;
            coatLimit = other.coatLimit;
            slats = other.slats;
            columns = other.columns;
            leftBoxes = other.leftBoxes;
            rightBoxes = other.rightBoxes;
            tiedSlats = other.tiedSlats;
            System.arraycopy(other.width, 0, width, 0, MOST_SLATS);
            System.arraycopy(other.first, 0, first, 0, MOST_SLATS);
            System.arraycopy(other.turn, 0, turn, 0, MOST_SLATS);
            System.arraycopy(other.leftCoats, 0, leftCoats, 0, MOST_SLATS);
            System.arraycopy(other.rightCoats, 0, rightCoats, 0, MOST_SLATS);
            System.arraycopy(other.leftPicture, 0, leftPicture, 0, MOST_COLUMNS);
            System.arraycopy(other.rightPicture, 0, rightPicture, 0, MOST_COLUMNS);
            System.arraycopy(other.leftFace, 0, leftFace, 0, MOST_COLUMNS);
            System.arraycopy(other.rightFace, 0, rightFace, 0, MOST_COLUMNS);
        }

        void addSlat(int itsWidth, int itsTurn) {
            if (slats < MOST_SLATS) {
                width[slats] = itsWidth;
                first[slats] = columns;
                turn[slats] = itsTurn;
                leftCoats[slats] = 1;
                rightCoats[slats] = 1;
                slats++;
                columns += itsWidth;
            }
        }

        void countBox(boolean isRight) {
            if (isRight) {
                rightBoxes++;
            } else {
                leftBoxes++;
            }
        }

        int[] pictureOf(boolean isRight) {
            return isRight ? rightPicture : leftPicture;
        }

        int[] faceOf(boolean isRight) {
            return isRight ? rightFace : leftFace;
        }

        int[] coatsOf(boolean isRight) {
            return isRight ? rightCoats : leftCoats;
        }

        boolean hasSlat(int slat) {
            return slat >= 0 && slat < slats;
        }

        boolean hasColumn(int column) {
            return column >= 0 && column < columns;
        }

        boolean hasRow(int row) {
            return row >= 0 && row < rows;
        }

        boolean hasCell(int column, int row) {
            return hasColumn(column) && hasRow(row);
        }

        boolean hasFaceCell(int slat, int column, int row) {
            return hasSlat(slat) && column >= 0 && column < width[slat] && hasRow(row);
        }

        int cells() {
            return columns * rows;
        }

        int slatWith(int column) {
            int slat = 0;
            while (slat < slats - 1 && column >= first[slat] + width[slat]) {
                slat++;
            }
            return slat;
        }

        boolean isTied(int slat) {
            return ((tiedSlats >>> slat) & 1) == 1;
        }

        void setTied(int slat, boolean isOn) {
            int bit = 1 << slat;
            tiedSlats = isOn ? tiedSlats | bit : tiedSlats & ~bit;
        }

        int seamBehind(int slat) {
            return slat >= 0 && slat < slats - 1 ? turn[slat] - turn[slat + 1] : 0;
        }

        int coveringSeams() {
            int count = 0;
            for (int slat = 0; slat < slats; slat++) {
                count += seamBehind(slat) > 0 ? 1 : 0;
            }
            return count;
        }

        int openingSeams() {
            int count = 0;
            for (int slat = 0; slat < slats; slat++) {
                count += seamBehind(slat) < 0 ? 1 : 0;
            }
            return count;
        }

        /** The cells of a face of a slat that have not the colour of its picture. */
        int unlikePicture(int slat, boolean isRight) {
            int[] picture = pictureOf(isRight);
            int[] face = faceOf(isRight);
            int cells = 0;
            for (int k = first[slat]; k < first[slat] + width[slat]; k++) {
                cells += unlikeRows(face[k], picture[k]);
            }
            return cells;
        }

        boolean bearsCoat(int slat, boolean isRight) {
            return coatsOf(isRight)[slat] < coatLimit;
        }

        int turnAfterPull(int slat, int by) {
            if (isTied(slat)) {
                return turn[slat];
            }
            return Math.max(-MOST_TURN, Math.min(MOST_TURN, turn[slat] + by));
        }

        /** How many slats turn until all have one turn; NONE if a tied one would have to. */
        int turnsTo(int to) {
            int count = 0;
            for (int slat = 0; slat < slats; slat++) {
                if (turn[slat] != to && isTied(slat)) {
                    return NONE;
                }
                count += turn[slat] != to ? 1 : 0;
            }
            return count;
        }

        int pullCord(int by) {
            int turned = 0;
            for (int slat = 0; slat < slats; slat++) {
                int to = turnAfterPull(slat, by);
                turned += to != turn[slat] ? 1 : 0;
                turn[slat] = to;
            }
            return turned;
        }

        int paintFace(int slat, boolean isRight) {
            int cells = unlikePicture(slat, isRight);
            int from = first[slat];
            System.arraycopy(pictureOf(isRight), from, faceOf(isRight), from, width[slat]);
            coatsOf(isRight)[slat]++;
            return cells;
        }

        int dabCell(int slat, boolean isRight, int column, int row, int colour) {
            int[] face = faceOf(isRight);
            int k = first[slat] + column;
            int before = colourIn(face[k], row);
            face[k] = withColour(face[k], row, colour);
            return before;
        }

        int swapFaces(int slat) {
            int cells = 0;
            for (int k = first[slat]; k < first[slat] + width[slat]; k++) {
                cells += unlikeRows(leftFace[k], rightFace[k]);
                int left = leftFace[k];
                leftFace[k] = rightFace[k];
                rightFace[k] = left;
            }
            int coats = leftCoats[slat];
            leftCoats[slat] = rightCoats[slat];
            rightCoats[slat] = coats;
            return cells;
        }

        int addSpot(boolean isRight, int column, int row, int colour) {
            int[] picture = pictureOf(isRight);
            picture[column] = withColour(picture[column], row, colour);
            countBox(isRight);
            return leftBoxes + rightBoxes;
        }
    }

    /** What is seen of a blind from an angle, with its turns or with others. */
    private static final class View {
        static final int SHOWN = 0;
        static final int COVERED_BY_SEAM = 1;
        static final int OPEN_BY_SEAM = 2;
        static final int OPEN_BY_LEAN = 3;
        static final int OTHER_FACE = 4;
        static final int OTHER_COLOUR = 5;

        final Blind blind;
        // By columns of the blind; the colours are those of the face that is seen.
        final int[] state = new int[MOST_COLUMNS];
        final int[] colours = new int[MOST_COLUMNS];
        final boolean[] isRightFace = new boolean[MOST_COLUMNS];

        View(Blind blind) {
            this.blind = blind;
        }

        void look(int[] turns, int angle) {
            for (int slat = 0; slat < blind.slats && slat < turns.length; slat++) {
                int lean = Math.max(-MOST_ANGLE, Math.min(MOST_ANGLE, angle - turns[slat]));
                int covered = slat > 0 ? turns[slat - 1] - turns[slat] : 0;
                int opened = slat < blind.slats - 1 ? turns[slat + 1] - turns[slat] : 0;
                lookAtSlat(slat, lean, covered, opened);
            }
        }

        /** Covered are its first columns, opened its last ones; none by a number below 1. */
        private void lookAtSlat(int slat, int lean, int covered, int opened) {
            int width = blind.width[slat];
            int shown = (width * Math.abs(lean) + 5) / 6;
            int[] face = blind.faceOf(lean > 0);
            for (int column = 0; column < width; column++) {
                int k = blind.first[slat] + column;
                boolean isLeant = lean > 0 ? column < width - shown : column >= shown;
                if (column < covered) {
                    state[k] = COVERED_BY_SEAM;
                } else if (column >= width - opened) {
                    state[k] = OPEN_BY_SEAM;
                } else {
                    state[k] = isLeant ? OPEN_BY_LEAN : SHOWN;
                }
                colours[k] = face[k];
                isRightFace[k] = lean > 0;
            }
        }

        boolean isShown(int column) {
            return state[column] == SHOWN;
        }

        int seenAt(int column, int row) {
            if (isShown(column)) {
                return colourIn(colours[column], row);
            }
            return state[column] == COVERED_BY_SEAM ? COVERED : NONE;
        }

        /** The answers of why() are the states of a column, and two more. */
        int whyNotRight(boolean isRight, int column, int row) {
            if (!isShown(column) || isSeenRight(isRight, column, row)) {
                return state[column];
            }
            return isRightFace[column] == isRight ? OTHER_COLOUR : OTHER_FACE;
        }

        private boolean isSeenRight(boolean isRight, int column, int row) {
            int due = colourIn(blind.pictureOf(isRight)[column], row);
            return isShown(column) && colourIn(colours[column], row) == due;
        }

        int columnsWith(int wanted) {
            int count = 0;
            for (int column = 0; column < blind.columns; column++) {
                count += state[column] == wanted ? 1 : 0;
            }
            return count;
        }

        /** The cells that are seen right in the columns from one up to another. */
        int rightCells(boolean isRight, int from, int to) {
            int[] picture = blind.pictureOf(isRight);
            int cells = 0;
            for (int column = from; column < to; column++) {
                if (isShown(column)) {
                    cells += blind.rows - unlikeRows(colours[column], picture[column]);
                }
            }
            return cells;
        }

        int rightOfSlat(int slat, boolean isRight) {
            int from = blind.first[slat];
            return rightCells(isRight, from, from + blind.width[slat]);
        }

        boolean isWhole(boolean isRight) {
            boolean isRightAll = rightCells(isRight, 0, blind.columns) == blind.cells();
            return blind.columns > 0 && isRightAll;
        }

        int firstNotRight(boolean isRight) {
            for (int row = 0; row < blind.rows; row++) {
                for (int column = 0; column < blind.columns; column++) {
                    if (!isSeenRight(isRight, column, row)) {
                        return row * blind.columns + column;
                    }
                }
            }
            return NONE;
        }

        int mostShownTogether() {
            int most = 0;
            int together = 0;
            for (int column = 0; column < blind.columns; column++) {
                together = isShown(column) ? together + 1 : 0;
                most = Math.max(most, together);
            }
            return most;
        }

        int ghostCells(boolean isRight) {
            int[] picture = blind.pictureOf(isRight);
            int[] other = blind.pictureOf(!isRight);
            int cells = 0;
            for (int column = 0; column < blind.columns; column++) {
                int wrong = unlikeBits(colours[column], picture[column]);
                int notOther = unlikeBits(colours[column], other[column]);
                cells += isShown(column) ? Integer.bitCount(wrong & ~notOther) : 0;
            }
            return cells;
        }
    }

    /** The latest states that can be undone. */
    private static final class History {
        static final int MOST_KEPT = 6;

        final Blind[] kept = new Blind[MOST_KEPT];
        int count;
        // Where the next state is kept; the latest one stands before it, round the end.
        int next;

        History() {
            for (int i = 0; i < MOST_KEPT; i++) {
                kept[i] = new Blind();
            }
        }

        void keep(Blind blind) {
            kept[next].copyFrom(blind);
            next = (next + 1) % MOST_KEPT;
            count = Math.min(MOST_KEPT, count + 1);
        }

        boolean takeBack(Blind blind) {
            if (count == 0) {
                return false;
            }
            next = (next + MOST_KEPT - 1) % MOST_KEPT;
            count--;
            blind.copyFrom(kept[next]);
            return true;
        }

        void forget() {
            count = 0;
        }
    }
}
