import java.lang.reflect.InvocationTargetException;
import java.lang.reflect.Method;
import java.util.ArrayList;
import java.util.List;
import java.util.Random;

/** Runs of calls, always the same ones, on the class and on the reference. */
public final class RandomRunsTest {
    private static final int RUNS = 300;
    // An object is promised to answer 512 calls; a text takes up to 34 of them.
    private static final int CALLS = 478;

    // Each method with what its arguments are: a few of each kind are out of range.
    private static final String[] QUESTIONS = {
        "errorCode", "errorPosition", "setting setting", "slat slat what", "slatAt column",
        "picture side column row", "face slat side inner row", "common", "seen angle column row",
        "why angle side column row", "right angle side", "open angle", "covered angle",
        "whole angle", "firstWrong angle side", "shownFrom column", "bestAngle side", "seam slat",
        "run angle", "worstSlat angle side", "ghosts angle side", "paintable side", "span side",
        "light angle", "meanRight side", "lightest", "bestTurn slat angle side",
        "bestPull angle side", "dabs angle side", "fairest angle", "reportByte byte"};
    private static final String[] CHANGES = {
        "pull steps", "turn slat turn", "tie slat side", "paint slat side",
        "dab slat side inner row colour", "swap slat", "spot side column row colour", "undo",
        "undo", "report angle"};
    private static final String[] OTHERS = {
        "save", "restore", "turnsNeeded angle side", "truncate byte", "runScript", "readText"};

    private final Random random;
    private final BambooBlind blind = new BambooBlind();
    private final ReferenceBlind reference = new ReferenceBlind();
    private final int run;
    private final List<String> calls = new ArrayList<>();
    private boolean isWrong;

    private RandomRunsTest(int run) {
        this.run = run;
        this.random = new Random(run);
    }

    public static void main(String[] args) {
        for (int run = 0; run < RUNS; run++) {
            new RandomRunsTest(run).go();
        }
        Check.end();
    }

    private void go() {
        feedText(text());
        call("readText");
        while (calls.size() < CALLS && !isWrong) {
            int kind = random.nextInt(100);
            if (kind < 55) {
                call(oneOf(QUESTIONS));
            } else if (kind < 90) {
                call(oneOf(CHANGES));
            } else if (kind < 94) {
                feedText(script());
                call("runScript");
            } else if (kind < 95) {
                feedText(text());
                call("readText");
            } else {
                call(oneOf(OTHERS));
            }
        }
    }

    private String oneOf(String... texts) {
        return texts[random.nextInt(texts.length)];
    }

    /** Makes a call on both objects, with random arguments of the kinds told. */
    private void call(String spec) {
        String[] parts = spec.split(" ");
        Object[] arguments = new Object[parts.length - 1];
        for (int i = 0; i < arguments.length; i++) {
            arguments[i] = argument(parts[i + 1]);
        }
        compare(parts[0], arguments);
    }

    private Object argument(String kind) {
        if (kind.equals("side")) {
            return random.nextBoolean();
        }
        int slats = reference.setting(0);
        switch (kind) {
            case "slat":
                return within(0, slats - 1);
            case "column":
                return within(0, reference.setting(2) - 1);
            case "inner":
                return within(0, 3);
            case "row":
                return within(0, reference.setting(1) - 1);
            case "angle":
                return within(-6, 6);
            case "turn":
                return within(-4, 4);
            case "steps":
                return within(-8, 8);
            case "setting":
            case "colour":
                return within(0, 9);
            case "what":
                return within(0, 7);
            default:
                return within(0, 60);
        }
    }

    private int within(int least, int most) {
        int kind = random.nextInt(60);
        if (kind == 0) {
            return oneOf("low", "high").equals("low") ? least - 1 : most + 1;
        }
        if (kind == 1) {
            return random.nextInt();
        }
        return most < least ? least : least + random.nextInt(most - least + 1);
    }

    private void compare(String name, Object... arguments) {
        String due = answer(reference, name, arguments);
        String answered = answer(blind, name, arguments);
        StringBuilder told = new StringBuilder(name);
        for (Object argument : arguments) {
            told.append(' ').append(argument);
        }
        calls.add(told + " -> " + due);
        Check.same("run " + run + " call " + calls.size() + ": " + told, answered, due);
        if (!answered.equals(due)) {
            isWrong = true;
            calls.forEach(System.out::println);
        }
    }

    private static String answer(Object object, String name, Object... arguments) {
        for (Method method : object.getClass().getMethods()) {
            if (method.getName().equals(name)
                    && method.getDeclaringClass() == object.getClass()) {
                return answer(object, method, arguments);
            }
        }
        return "no method " + name;
    }

    private static String answer(Object object, Method method, Object... arguments) {
        try {
            return String.valueOf(method.invoke(object, arguments));
        } catch (InvocationTargetException e) {
            return "throws " + e.getCause().getClass().getSimpleName();
        } catch (IllegalAccessException e) {
            return "no access to " + method;
        }
    }

    // ---- texts

    private void feedText(String text) {
        compare("truncate", 0);
        String fed = random.nextInt(5) == 0 ? spoilt(text) : text;
        for (int from = 0; from < fed.length(); from += 20) {
            Object[] bytes = new Object[5];
            for (int i = 0; i < bytes.length; i++) {
                bytes[i] = four(fed, from + 4 * i);
            }
            compare("feed", bytes);
        }
        if (fed.length() <= 600) {
            compare("truncate", fed.length());
        }
    }

    private static int four(String text, int from) {
        int bytes = 0;
        for (int i = from; i < from + 4; i++) {
            bytes = bytes << 8 | (i < text.length() ? text.charAt(i) : 0);
        }
        return bytes;
    }

    private String spoilt(String text) {
        if (text.isEmpty()) {
            return text;
        }
        int at = random.nextInt(text.length());
        switch (random.nextInt(4)) {
            case 0:
                return text.substring(0, at);
            case 1:
                return text.substring(0, at) + text.substring(at + 1);
            case 2:
                return text.substring(0, at) + (char) random.nextInt(256) + text.substring(at + 1);
            default:
                return text.substring(0, at)
                        + oneOf(";", "(", ")", "0", "9", "left", " ", "x", "high 4;", "repeat 2(")
                        + text.substring(at);
        }
    }

    private String text() {
        StringBuilder text = new StringBuilder();
        int[] statements = {random.nextInt(9), random.nextInt(9)};
        text.append(random.nextBoolean() ? "high " + number(1, 8) + ";" : "");
        text.append(random.nextInt(3) == 0 ? "coats " + number(1, 3) + ";" : "");
        while (statements[0] + statements[1] > 0) {
            int which = random.nextInt(2);
            if (statements[which] > 0) {
                statements[which]--;
                text.append(which == 0 ? slat() : box()).append(random.nextBoolean() ? "" : "\n");
            }
        }
        return text.toString();
    }

    private String slat() {
        String turn = oneOf("", side() + number(0, 4), side() + number(0, 1));
        return "slat" + oneOf("", " ") + number(1, 6) + oneOf("", " ") + turn + ";";
    }

    private String box() {
        return "box " + side() + number(0, 8) + " " + number(0, 3) + " " + number(1, 12) + " "
                + number(1, 5) + " " + number(1, 3) + ";";
    }

    private String side() {
        return oneOf("left ", "right ");
    }

    private int number(int least, int most) {
        int number = least + random.nextInt(most - least + 1);
        return random.nextInt(150) == 0 ? random.nextInt(1100) : number;
    }

    private String script() {
        StringBuilder script = new StringBuilder();
        int commands = random.nextInt(8);
        for (int i = 0; i < commands; i++) {
            script.append(command(0)).append(oneOf("", " ", "\n"));
        }
        return script.toString();
    }

    private String command(int depth) {
        int slat = number(0, Math.max(0, reference.setting(0) - 1));
        switch (random.nextInt(depth < 2 ? 9 : 7)) {
            case 0:
                return "pull " + side() + number(1, 4) + ";";
            case 1:
                return "turn " + slat + " " + side() + number(0, 4) + ";";
            case 2:
                return oneOf("tie ", "free ") + slat + ";";
            case 3:
                return "tie " + slat + ";free " + slat + ";";
            case 4:
                return "paint " + slat + " " + side() + ";";
            case 5:
                return "dab " + slat + " " + side() + "0 0 " + number(0, 9) + ";";
            case 6:
                return "swap " + slat + ";";
            default:
                StringBuilder repeat = new StringBuilder("repeat ").append(number(1, 5)).append('(');
                for (int i = random.nextInt(4); i > 0; i--) {
                    repeat.append(command(depth + 1));
                }
                return repeat.append(");").toString();
        }
    }
}
