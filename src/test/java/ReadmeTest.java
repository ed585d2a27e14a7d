import java.io.IOException;
import java.nio.file.Files;
import java.nio.file.Path;
import java.util.List;

/** The example of README.md: each call answers what is told behind it there. */
public final class ReadmeTest {
    private static final List<String> LINES = lines();

    private ReadmeTest() {
    }

    public static void main(String[] args) {
        BambooBlind blind = new BambooBlind();
        blind.feed(0x68696768, 0x20313b73, 0x6c617420, 0x323b626f, 0x78207269);
        blind.feed(0x67687420, 0x30203020, 0x31203120, 0x373b0000, 0);
        told("blind.truncate(34);", blind.truncate(34));
        told("blind.readText();", blind.readText());
        told("blind.seen(6, 0, 0);", blind.seen(6, 0, 0));
        told("blind.seen(0, 0, 0);", blind.seen(0, 0, 0));
        told("blind.turn(0, -2);", blind.turn(0, -2));
        blind.feed(0x73776170, 0x20303b70, 0x756c6c20, 0x72696768, 0x7420323b);
        told("blind.runScript();", blind.runScript());
        told("blind.seen(-6, 0, 0);", blind.seen(-6, 0, 0));
        told("blind.setting(9);", blind.setting(9));
        told("blind.undo();", blind.undo());
        told("blind.undo();", blind.undo());
        statements();
        Check.same("calls that are told", LINES.size(), 0);
        Check.end();
    }

    /** The lines of README.md that tell an answer; each of them is taken once. */
    private static List<String> lines() {
        try {
            List<String> lines = Files.readAllLines(Path.of("README.md"));
            lines.removeIf(line -> !line.startsWith("blind.") || !line.contains("//"));
            return lines;
        } catch (IOException e) {
            throw new IllegalStateException("README.md is not there", e);
        }
    }

    private static void told(String call, int answered) {
        String line = LINES.isEmpty() ? "" : LINES.remove(0);
        Check.same("the next call that is told", line.replaceFirst(" *//.*", ""), call);
        String due = line.replaceFirst(".*// ", "").replaceFirst(":.*", "");
        String named = answered == BambooBlind.NONE ? "BambooBlind.NONE" : String.valueOf(answered);
        Check.same(call, named, due);
    }

    private static void statements() {
        BambooBlind blind = Blinds.of("high 4;coats 9;slat 3 left 1;box right 0 1 5 2 7;");
        Check.same("the turn that is told", blind.slat(0, 2), -1);
        Check.same("the box that is told", Blinds.picture(blind, true), "000/777/777/000");
        Check.same("the commands that are told", Blinds.run(blind, "pull left 2;turn 0 right 3;tie 0;"
                + "free 0;paint 0 left;dab 0 left 1 2 9;swap 0;repeat 3 (swap 0; pull right 1;);"), 13);
    }
}
