import java.util.ArrayDeque;
import java.util.ArrayList;
import java.util.Deque;
import java.util.List;
import java.util.function.IntFunction;
import java.util.function.IntPredicate;
import java.util.regex.Matcher;
import java.util.regex.Pattern;

/**
 * The document once more, written down as plainly as the Java library allows: boxes are kept as
 * boxes, faces as cells, each question is asked of each cell by itself, and ways to turn slats are
 * all tried. Random runs compare the class with it.
 */
public final class ReferenceBlind {
    private static final int NONE = -1;
    private static final int COVERED = -2;
    private static final int NOWHERE = -99;

    private static final class Slat {
        int width;
        int turn;
        boolean isTied;
        final int[] coats = {1, 1};
        final int[][][] face = new int[2][][];

        Slat copy() {
            Slat copy = new Slat();
            copy.width = width;
            copy.turn = turn;
            copy.isTied = isTied;
            for (int side = 0; side < 2; side++) {
                copy.coats[side] = coats[side];
                copy.face[side] = new int[width][];
                for (int column = 0; column < width; column++) {
                    copy.face[side][column] = face[side][column].clone();
                }
            }
            return copy;
        }
    }

    private static final class State {
        int rows = 4;
        int coats = 9;
        final List<Slat> slats = new ArrayList<>();
        final List<int[]> boxes = new ArrayList<>();

        State copy() {
            State copy = new State();
            copy.rows = rows;
            copy.coats = coats;
            slats.forEach(slat -> copy.slats.add(slat.copy()));
            copy.boxes.addAll(boxes);
            return copy;
        }
    }

    private static final class TextError extends RuntimeException {
        private static final long serialVersionUID = 1L;
        final int code;
        final int position;

        TextError(int code, int position) {
            this.code = code;
            this.position = position;
        }
    }

    private static final class EndOfScript extends RuntimeException {
        private static final long serialVersionUID = 1L;
    }

    private static final class Command {
        final String verb;
        final List<Integer> numbers = new ArrayList<>();
        int side;
        final List<Command> repeated = new ArrayList<>();

        Command(String verb) {
            this.verb = verb;
        }
    }

    private static final Pattern TOKEN = Pattern.compile("[a-z]+|[0-9]+|[^a-z0-9 \n]");

    private final StringBuilder buffer = new StringBuilder();
    private State now = new State();
    private State saved;
    private final Deque<State> undos = new ArrayDeque<>();
    private String report = "";
    private int code;
    private int position = NONE;

    private final List<String> tokens = new ArrayList<>();
    private final List<Integer> starts = new ArrayList<>();
    private int next;
    private int told;
    private int done;

    // ---- texts

    public int feed(int a, int b, int c, int d, int e) {
        if (buffer.length() > 580) {
            throw new IllegalStateException();
        }
        for (int four : new int[] {a, b, c, d, e}) {
            for (int shift = 24; shift >= 0; shift -= 8) {
                buffer.append((char) (four >> shift & 255));
            }
        }
        return buffer.length();
    }

    public int truncate(int n) {
        if (n < 0 || n > buffer.length()) {
            throw new IllegalArgumentException();
        }
        buffer.setLength(n);
        return n;
    }

    public int errorCode() {
        return code;
    }

    public int errorPosition() {
        return position;
    }

    public int readText() {
        State read = new State();
        read(() -> readStatements(read));
        now = read;
        undos.clear();
        for (int slat = 0; slat < now.slats.size(); slat++) {
            for (int side = 0; side < 2; side++) {
                now.slats.get(slat).face[side] = picturePart(slat, side);
            }
        }
        return now.slats.size();
    }

    public int runScript() {
        List<Command> commands = new ArrayList<>();
        read(() -> {
            told = 0;
            readCommands(commands, 0);
        });
        State before = now.copy();
        List<State> undosBefore = new ArrayList<>(undos);
        done = 0;
        try {
            doAll(commands);
        } catch (EndOfScript e) {
            // The commands before stay done.
        }
        undos.clear();
        undos.addAll(undosBefore);
        keep(before);
        return done;
    }

    private void read(Runnable reading) {
        tokens.clear();
        starts.clear();
        next = 0;
        Matcher matcher = TOKEN.matcher(buffer);
        while (matcher.find()) {
            tokens.add(matcher.group());
            starts.add(matcher.start());
        }
        starts.add(buffer.length());
        buffer.setLength(0);
        code = 0;
        position = NONE;
        try {
            reading.run();
        } catch (TextError e) {
            code = e.code;
            position = e.position;
            throw new IllegalArgumentException();
        }
    }

    private String peek() {
        return next < tokens.size() ? tokens.get(next) : "";
    }

    private TextError error(int errorCode) {
        return new TextError(errorCode, starts.get(next));
    }

    private void take(String token) {
        if (!peek().equals(token)) {
            throw error(1);
        }
        next++;
    }

    private int takeNumber(int least, int most) {
        if (!peek().matches("[0-9]{1,3}")) {
            throw error(1);
        }
        int number = Integer.parseInt(peek());
        if (number < least || number > most) {
            throw error(2);
        }
        next++;
        return number;
    }

    private int takeSide() {
        int side = List.of("left", "right").indexOf(peek());
        if (side < 0) {
            throw error(1);
        }
        next++;
        return side;
    }

    private void readStatements(State read) {
        boolean[] isTold = new boolean[2];
        while (next < tokens.size()) {
            switch (peek()) {
                case "high" -> read.rows = readOnce(isTold, 0, 8);
                case "coats" -> read.coats = readOnce(isTold, 1, 99);
                case "slat" -> read.slats.add(readSlat(read.slats.size()));
                case "box" -> read.boxes.add(readBox(read.boxes.size()));
                default -> throw error(1);
            }
            take(";");
        }
    }

    private int readOnce(boolean[] isTold, int which, int most) {
        if (isTold[which]) {
            throw error(3);
        }
        isTold[which] = true;
        next++;
        return takeNumber(1, most);
    }

    private Slat readSlat(int slats) {
        if (slats == 10) {
            throw error(5);
        }
        next++;
        Slat slat = new Slat();
        slat.width = takeNumber(1, 6);
        if (!peek().equals(";")) {
            int side = takeSide();
            int steps = takeNumber(0, 4);
            slat.turn = side == 1 ? steps : -steps;
        }
        return slat;
    }

    private int[] readBox(int boxes) {
        if (boxes == 16) {
            throw error(5);
        }
        next++;
        return new int[] {takeSide(), takeNumber(0, 63), takeNumber(0, 63), takeNumber(1, 64),
            takeNumber(1, 64), takeNumber(1, 9)};
    }

    private void readCommands(List<Command> commands, int depth) {
        while (next < tokens.size() && !(depth > 0 && peek().equals(")"))) {
            commands.add(readCommand(depth));
            take(";");
        }
    }

    private Command readCommand(int depth) {
        String verb = peek();
        String parts = switch (verb) {
            case "pull" -> "sn";
            case "turn" -> "nsn";
            case "tie", "free", "swap" -> "n";
            case "paint" -> "ns";
            case "dab" -> "nsnnn";
            case "repeat" -> "r";
            default -> throw error(1);
        };
        if (verb.equals("repeat") && depth == 2) {
            throw error(3);
        }
        told++;
        if (told > 30) {
            throw error(5);
        }
        next++;
        Command command = new Command(verb);
        for (char part : parts.toCharArray()) {
            switch (part) {
                case 'n' -> command.numbers.add(takeNumber(0, 999));
                case 's' -> command.side = takeSide();
                default -> {
                    command.numbers.add(takeNumber(1, 20));
                    take("(");
                    readCommands(command.repeated, depth + 1);
                    take(")");
                }
            }
        }
        return command;
    }

    private void doAll(List<Command> commands) {
        for (Command command : commands) {
            if (command.verb.equals("repeat")) {
                for (int time = 0; time < command.numbers.get(0); time++) {
                    doAll(command.repeated);
                }
            } else {
                doOne(command);
            }
        }
    }

    private void doOne(Command command) {
        if (done == 40) {
            throw new EndOfScript();
        }
        List<Integer> n = command.numbers;
        boolean isRight = command.side == 1;
        boolean isDone = true;
        try {
            switch (command.verb) {
                case "pull" -> pull(isRight ? n.get(0) : -n.get(0));
                case "turn" -> turn(n.get(0), isRight ? n.get(1) : -n.get(1));
                case "tie" -> isDone = tie(n.get(0), true);
                case "free" -> isDone = tie(n.get(0), false);
                case "paint" -> paint(n.get(0), isRight);
                case "dab" -> dab(n.get(0), isRight, n.get(1), n.get(2), n.get(3));
                default -> swap(n.get(0));
            }
        } catch (IndexOutOfBoundsException | IllegalArgumentException | IllegalStateException e) {
            isDone = false;
        }
        if (!isDone) {
            throw new EndOfScript();
        }
        done++;
    }

    // ---- what is there

    public int setting(int what) {
        return switch (what) {
            case 0 -> now.slats.size();
            case 1 -> now.rows;
            case 2 -> columns();
            case 3 -> (int) now.boxes.stream().filter(box -> box[0] == 0).count();
            case 4 -> (int) now.boxes.stream().filter(box -> box[0] == 1).count();
            case 5 -> now.coats;
            case 6 -> (int) now.slats.stream().filter(slat -> slat.isTied).count();
            case 7 -> seamsThat(tells -> tells > 0);
            case 8 -> seamsThat(tells -> tells < 0);
            case 9 -> undos.size();
            default -> throw new IllegalArgumentException();
        };
    }

    private int seamsThat(IntPredicate tells) {
        int count = 0;
        for (int slat = 0; slat < now.slats.size(); slat++) {
            count += tells.test(seam(slat)) ? 1 : 0;
        }
        return count;
    }

    public int slat(int slat, int what) {
        Slat it = existing(slat);
        return switch (what) {
            case 0 -> it.width;
            case 1 -> first(slat);
            case 2 -> it.turn;
            case 3 -> it.isTied ? 1 : 0;
            case 4 -> it.coats[0];
            case 5 -> it.coats[1];
            case 6 -> unlike(it.face[0], picturePart(slat, 0));
            case 7 -> unlike(it.face[1], picturePart(slat, 1));
            default -> throw new IllegalArgumentException();
        };
    }

    public int slatAt(int column) {
        checkCell(column, 0);
        int slat = 0;
        while (first(slat) + now.slats.get(slat).width <= column) {
            slat++;
        }
        return slat;
    }

    public int picture(boolean isRight, int column, int row) {
        checkCell(column, row);
        return pictureAt(isRight ? 1 : 0, column, row);
    }

    public int face(int slat, boolean isRight, int column, int row) {
        checkFaceCell(slat, column, row);
        return now.slats.get(slat).face[isRight ? 1 : 0][column][row];
    }

    public int common() {
        return cellsThat((column, row) -> pictureAt(0, column, row) == pictureAt(1, column, row));
    }

    /** A question about a cell. */
    private interface Cell {
        boolean test(int column, int row);
    }

    private int cellsThat(Cell question) {
        int count = 0;
        for (int row = 0; row < now.rows; row++) {
            for (int column = 0; column < columns(); column++) {
                count += question.test(column, row) ? 1 : 0;
            }
        }
        return count;
    }

    private int columns() {
        return first(now.slats.size());
    }

    private int first(int slat) {
        return now.slats.subList(0, slat).stream().mapToInt(it -> it.width).sum();
    }

    private int pictureAt(int side, int column, int row) {
        int colour = 0;
        for (int[] box : now.boxes) {
            boolean hasColumn = column >= box[1] && column < box[1] + box[3];
            boolean hasRow = row >= box[2] && row < box[2] + box[4];
            colour = box[0] == side && hasColumn && hasRow ? box[5] : colour;
        }
        return colour;
    }

    private int[][] picturePart(int slat, int side) {
        int[][] part = new int[now.slats.get(slat).width][now.rows];
        for (int column = 0; column < part.length; column++) {
            for (int row = 0; row < now.rows; row++) {
                part[column][row] = pictureAt(side, first(slat) + column, row);
            }
        }
        return part;
    }

    private static int unlike(int[][] one, int[][] other) {
        int count = 0;
        for (int column = 0; column < one.length; column++) {
            for (int row = 0; row < one[column].length; row++) {
                count += one[column][row] != other[column][row] ? 1 : 0;
            }
        }
        return count;
    }

    private Slat existing(int slat) {
        if (slat < 0 || slat >= now.slats.size()) {
            throw new IndexOutOfBoundsException();
        }
        return now.slats.get(slat);
    }

    private void checkCell(int column, int row) {
        if (column < 0 || column >= columns() || row < 0 || row >= now.rows) {
            throw new IndexOutOfBoundsException();
        }
    }

    private void checkFaceCell(int slat, int column, int row) {
        if (column < 0 || column >= existing(slat).width || row < 0 || row >= now.rows) {
            throw new IndexOutOfBoundsException();
        }
    }

    private static void checkValue(boolean isInRange) {
        if (!isInRange) {
            throw new IllegalArgumentException();
        }
    }

    private static void checkAngle(int angle) {
        checkValue(angle >= -6 && angle <= 6);
    }

    private static void checkState(boolean isFine) {
        if (!isFine) {
            throw new IllegalStateException();
        }
    }

    // ---- what is seen

    private int lean(int slat, int angle) {
        return Math.max(-6, Math.min(6, angle - now.slats.get(slat).turn));
    }

    /** 0 shown, 1 covered, 2 open by a seam, 3 open by the lean. */
    private int stateOf(int column, int angle) {
        int slat = slatAt(column);
        int inner = column - first(slat);
        int width = now.slats.get(slat).width;
        if (slat > 0 && inner < seam(slat - 1)) {
            return 1;
        }
        if (width - inner <= -seam(slat)) {
            return 2;
        }
        int lean = lean(slat, angle);
        int shown = (width * Math.abs(lean) + 5) / 6;
        boolean isShown = lean > 0 ? inner >= width - shown : lean < 0 && inner < shown;
        return isShown ? 0 : 3;
    }

    private int colourSeen(int column, int row, int angle) {
        int slat = slatAt(column);
        int side = lean(slat, angle) > 0 ? 1 : 0;
        return now.slats.get(slat).face[side][column - first(slat)][row];
    }

    private boolean isRightAt(int column, int row, int angle, boolean isRight) {
        return why(angle, isRight, column, row) == 0;
    }

    public int seen(int angle, int column, int row) {
        checkCell(column, row);
        checkAngle(angle);
        int state = stateOf(column, angle);
        return state == 0 ? colourSeen(column, row, angle) : state == 1 ? COVERED : NONE;
    }

    public int why(int angle, boolean isRight, int column, int row) {
        checkCell(column, row);
        checkAngle(angle);
        int state = stateOf(column, angle);
        if (state != 0) {
            return state;
        }
        if (colourSeen(column, row, angle) == picture(isRight, column, row)) {
            return 0;
        }
        return (lean(slatAt(column), angle) > 0) == isRight ? 5 : 4;
    }

    public int right(int angle, boolean isRight) {
        checkAngle(angle);
        return cellsThat((column, row) -> isRightAt(column, row, angle, isRight));
    }

    public int open(int angle) {
        checkAngle(angle);
        return cellsThat((column, row) -> seen(angle, column, row) == NONE);
    }

    public int covered(int angle) {
        checkAngle(angle);
        return cellsThat((column, row) -> seen(angle, column, row) == COVERED);
    }

    private boolean isWhole(int angle, boolean isRight) {
        return columns() > 0 && right(angle, isRight) == columns() * now.rows;
    }

    public int whole(int angle) {
        checkAngle(angle);
        return (isWhole(angle, false) ? 1 : 0) + (isWhole(angle, true) ? 2 : 0);
    }

    public int firstWrong(int angle, boolean isRight) {
        checkAngle(angle);
        for (int cell = 0; cell < columns() * now.rows; cell++) {
            if (!isRightAt(cell % columns(), cell / columns(), angle, isRight)) {
                return cell;
            }
        }
        return NONE;
    }

    public int shownFrom(int column) {
        checkCell(column, 0);
        int angles = 0;
        for (int k = 0; k <= 12; k++) {
            angles += stateOf(column, k - 6) == 0 ? 1 << k : 0;
        }
        return angles;
    }

    /** The number with the highest value, the first one told of several. */
    private static int best(List<Integer> numbers, IntFunction<Integer> value) {
        int best = numbers.get(0);
        for (int number : numbers) {
            best = value.apply(number) > value.apply(best) ? number : best;
        }
        return best;
    }

    private static List<Integer> from(int least, int most) {
        List<Integer> numbers = new ArrayList<>();
        for (int number = least; number <= most; number++) {
            numbers.add(number);
        }
        return numbers;
    }

    public int bestAngle(boolean isRight) {
        return columns() == 0 ? NOWHERE : best(from(-6, 6), angle -> right(angle, isRight));
    }

    public int seam(int slat) {
        existing(slat);
        boolean isLast = slat == now.slats.size() - 1;
        return isLast ? 0 : now.slats.get(slat).turn - now.slats.get(slat + 1).turn;
    }

    public int run(int angle) {
        checkAngle(angle);
        int most = 0;
        for (int first = 0; first < columns(); first++) {
            int behind = first;
            while (behind < columns() && stateOf(behind, angle) == 0) {
                behind++;
            }
            most = Math.max(most, behind - first);
        }
        return most;
    }

    private int wrongOfSlat(int slat, int angle, boolean isRight) {
        return cellsThat((column, row) -> slatAt(column) == slat
                && !isRightAt(column, row, angle, isRight));
    }

    public int worstSlat(int angle, boolean isRight) {
        checkAngle(angle);
        if (columns() == 0) {
            return NONE;
        }
        int worst = best(from(0, now.slats.size() - 1), slat -> wrongOfSlat(slat, angle, isRight));
        return wrongOfSlat(worst, angle, isRight) == 0 ? NONE : worst;
    }

    public int ghosts(int angle, boolean isRight) {
        checkAngle(angle);
        return cellsThat((column, row) -> stateOf(column, angle) == 0
                && colourSeen(column, row, angle) != picture(isRight, column, row)
                && colourSeen(column, row, angle) == picture(!isRight, column, row));
    }

    public int paintable(boolean isRight) {
        int slats = 0;
        for (int slat = 0; slat < now.slats.size(); slat++) {
            boolean isUnlike = slat(slat, isRight ? 7 : 6) > 0;
            slats += isUnlike && slat(slat, isRight ? 5 : 4) < now.coats ? 1 << slat : 0;
        }
        return slats;
    }

    public int span(boolean isRight) {
        int most = 0;
        for (int first = -6; first <= 6; first++) {
            int behind = first;
            while (behind <= 6 && isWhole(behind, isRight)) {
                behind++;
            }
            most = Math.max(most, behind - first);
        }
        return most;
    }

    public float light(int angle) {
        checkAngle(angle);
        return columns() == 0 ? 0.0f : (float) open(angle) / (float) (columns() * now.rows);
    }

    public double meanRight(boolean isRight) {
        double sum = 0;
        for (int angle = -6; angle <= 6; angle++) {
            sum += right(angle, isRight);
        }
        return sum / 13;
    }

    public int lightest() {
        return columns() == 0 ? NOWHERE : best(from(-6, 6), this::open);
    }

    // ---- what would be

    /** Answers a question in another state, which is gone then. */
    private int asIf(Runnable change, IntFunction<Integer> question) {
        State before = now;
        now = now.copy();
        change.run();
        int answer = question.apply(0);
        now = before;
        return answer;
    }

    public int bestTurn(int slat, int angle, boolean isRight) {
        existing(slat);
        checkAngle(angle);
        return best(from(-4, 4), to -> asIf(() -> now.slats.get(slat).turn = to,
                any -> right(angle, isRight)));
    }

    public int bestPull(int angle, boolean isRight) {
        checkAngle(angle);
        List<Integer> pulls = new ArrayList<>(List.of(0));
        from(1, 8).forEach(steps -> pulls.addAll(List.of(-steps, steps)));
        return best(pulls, by -> asIf(() -> pullAll(by), any -> right(angle, isRight)));
    }

    public int dabs(int angle, boolean isRight) {
        checkAngle(angle);
        boolean isShown = cellsThat((column, row) -> stateOf(column, angle) != 0) == 0;
        int wrong = columns() * now.rows - right(angle, isRight);
        return columns() > 0 && isShown ? wrong : NONE;
    }

    public int turnsNeeded(int angle, boolean isRight) {
        checkAngle(angle);
        int fewest = NONE;
        for (int set = 0; set < 1 << now.slats.size(); set++) {
            int count = Integer.bitCount(set);
            for (int to = -4; to <= 4 && (fewest == NONE || count < fewest); to++) {
                fewest = isWayToTurn(set, to, angle, isRight) ? count : fewest;
            }
        }
        return fewest;
    }

    private boolean isWayToTurn(int set, int to, int angle, boolean isRight) {
        for (int slat = 0; slat < now.slats.size(); slat++) {
            Slat it = now.slats.get(slat);
            if ((set >> slat & 1) == 1 && (it.isTied || it.turn == to)) {
                return false;
            }
        }
        return asIf(() -> turnSet(set, to), any -> isWhole(angle, isRight) ? 1 : 0) == 1;
    }

    private void turnSet(int set, int to) {
        for (int slat = 0; slat < now.slats.size(); slat++) {
            Slat it = now.slats.get(slat);
            it.turn = (set >> slat & 1) == 1 ? to : it.turn;
        }
    }

    public int fairest(int angle) {
        checkAngle(angle);
        return best(from(-4, 4), to -> asIf(() -> turnSet(-1, to),
                any -> right(angle, false) + right(-angle, true)));
    }

    // ---- changes

    private void keep(State before) {
        undos.addLast(before);
        if (undos.size() > 6) {
            undos.removeFirst();
        }
    }

    private int pullAll(int by) {
        int turned = 0;
        for (Slat slat : now.slats) {
            int to = slat.isTied ? slat.turn : Math.max(-4, Math.min(4, slat.turn + by));
            turned += to != slat.turn ? 1 : 0;
            slat.turn = to;
        }
        return turned;
    }

    public int pull(int by) {
        checkValue(by >= -8 && by <= 8 && by != 0);
        keep(now.copy());
        return pullAll(by);
    }

    public int turn(int slat, int to) {
        Slat it = existing(slat);
        checkValue(to >= -4 && to <= 4);
        checkState(!it.isTied);
        keep(now.copy());
        int before = it.turn;
        it.turn = to;
        return before;
    }

    public boolean tie(int slat, boolean isOn) {
        Slat it = existing(slat);
        if (it.isTied == isOn) {
            return false;
        }
        keep(now.copy());
        it.isTied = isOn;
        return true;
    }

    public int paint(int slat, boolean isRight) {
        int side = isRight ? 1 : 0;
        Slat it = existing(slat);
        checkState(it.coats[side] < now.coats);
        keep(now.copy());
        int cells = unlike(it.face[side], picturePart(slat, side));
        it.face[side] = picturePart(slat, side);
        it.coats[side]++;
        return cells;
    }

    public int dab(int slat, boolean isRight, int column, int row, int colour) {
        checkFaceCell(slat, column, row);
        checkValue(colour >= 0 && colour <= 9);
        keep(now.copy());
        int[] cells = now.slats.get(slat).face[isRight ? 1 : 0][column];
        int before = cells[row];
        cells[row] = colour;
        return before;
    }

    public int swap(int slat) {
        Slat it = existing(slat);
        keep(now.copy());
        int[][] left = it.face[0];
        it.face[0] = it.face[1];
        it.face[1] = left;
        int coats = it.coats[0];
        it.coats[0] = it.coats[1];
        it.coats[1] = coats;
        return unlike(it.face[0], left);
    }

    public int spot(boolean isRight, int column, int row, int colour) {
        checkCell(column, row);
        checkValue(colour >= 0 && colour <= 9);
        checkState(now.boxes.size() < 16);
        keep(now.copy());
        now.boxes.add(new int[] {isRight ? 1 : 0, column, row, 1, 1, colour});
        return now.boxes.size();
    }

    // ---- reports, undo, a saved state

    public int report(int angle) {
        checkAngle(angle);
        StringBuilder signs = new StringBuilder();
        for (int row = 0; row < now.rows; row++) {
            for (int column = 0; column < columns(); column++) {
                int seen = seen(angle, column, row);
                signs.append(seen == NONE ? "." : seen == COVERED ? "|" : String.valueOf(seen));
            }
            signs.append('\n');
        }
        report = signs.toString();
        return report.length();
    }

    public int reportByte(int i) {
        if (i < 0 || i >= report.length()) {
            throw new IndexOutOfBoundsException();
        }
        return report.charAt(i);
    }

    public int undo() {
        if (undos.isEmpty()) {
            return NONE;
        }
        now = undos.removeLast();
        return undos.size();
    }

    public int save() {
        saved = now.copy();
        return now.slats.size();
    }

    public int restore() {
        checkState(saved != null);
        now = saved.copy();
        undos.clear();
        return now.slats.size();
    }
}
