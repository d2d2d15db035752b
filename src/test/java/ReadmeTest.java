import java.io.IOException;
import java.nio.file.Files;
import java.nio.file.Path;
import java.util.ArrayList;
import java.util.List;

/** The example of README.md: each line is made here, in its order, and answers what its comment begins with. */
public final class ReadmeTest {
    private static final Path README = Path.of("README.md");
    private static final Path SOURCE = Path.of("src/test/java/ReadmeTest.java");

    private final List<String> helper = new ArrayList<>();
    private final List<String> example = new ArrayList<>();
    private int next;

    private ReadmeTest() throws IOException {
        List<String> block = null;
        for (String line : Files.readAllLines(README)) {
            if (line.startsWith("```")) {
                block = !line.equals("```java") ? null : helper.isEmpty() ? helper : example;
            } else if (block != null) {
                block.add(line.strip());
            }
        }
    }

    public static void main(String[] args) throws IOException {
        ReadmeTest test = new ReadmeTest();
        String source = Files.readString(SOURCE).replaceAll("\n +", "\n");
        Checks.due("README's helper is the one here", source.contains(String.join("\n", test.helper)), true);
        test.day();
        Checks.due("the lines of README's example", test.next, test.example.size());
        Checks.end();
    }

    /** Takes the next line of the example. */
    private void line(String code, Object answer) {
        String line = next < example.size() ? example.get(next) : "";
        next++;
        Checks.due("line " + next + " of README's example", line.replaceFirst(" *//.*", ""), code + ";");
        Checks.due("what README says of " + code, line.replaceFirst(".*// ([^:]*):.*", "$1"), "" + answer);
    }

    private void setUp(String code) {
        String line = next < example.size() ? example.get(next) : "";
        next++;
        Checks.due("line " + next + " of README's example", line, code + ";");
    }

    static boolean put(VirtualQueue queue, String text) {
        queue.truncateInput(0);
        for (int at = 0; at < text.length(); at += 20) {
            int[] words = new int[5];
            for (int k = 0; k < 20; k++) {
                words[k / 4] = words[k / 4] << 8 | (at + k < text.length() ? text.charAt(at + k) & 255 : ' ');
            }
            if (queue.appendInput(words[0], words[1], words[2], words[3], words[4]) == VirtualQueue.NONE) {
                return false;
            }
        }
        return queue.truncateInput(text.length()) == text.length();
    }

    private void putLine(VirtualQueue queue, String text) {
        setUp("put(queue, \"" + text + "\")");
        Checks.due("README's helper takes " + text, put(queue, text), true);
    }

    private void day() {
        setUp("VirtualQueue queue = new VirtualQueue()");
        VirtualQueue queue = new VirtualQueue();
        putLine(queue, "ride 20 50 3 0 99; ride 12 0 1 0 143; tier 2 144 0 0; party 0 4; party 0 8;");
        line("queue.loadPark()", queue.loadPark());
        tickets(queue);
        lines(queue);
        script(queue);
    }

    private void tickets(VirtualQueue queue) {
        line("queue.issue(0, 0, 10)", queue.issue(0, 0, 10));
        line("queue.issue(1, 0, 10)", queue.issue(1, 0, 10));
        line("queue.ticketStart(0)", queue.ticketStart(0));
        line("queue.ticketEnd(0)", queue.ticketEnd(0));
        line("queue.ticketStart(1)", queue.ticketStart(1));
        line("queue.nextWindow(0, 0, 10)", queue.nextWindow(0, 0, 10));
        line("queue.formatItinerary(0)", queue.formatItinerary(0));
        line("queue.formattedByte(1)", queue.formattedByte(1));
    }

    private void lines(VirtualQueue queue) {
        line("queue.joinStandby(0, 12)", queue.joinStandby(0, 12));
        line("queue.joinStandby(0, 12)", queue.joinStandby(0, 12));
        line("queue.forecastStandby(0, 8)", queue.forecastStandby(0, 8));
        line("queue.saveSnapshot(0)", queue.saveSnapshot(0));
        line("queue.advance(10)", queue.advance(10));
        line("queue.redeem(0)", queue.redeem(0));
        line("queue.advance(1)", queue.advance(1));
        line("queue.boarded(0, true)", queue.boarded(0, true));
        line("queue.boarded(0, false)", queue.boarded(0, false));
        line("queue.averageWait(0)", queue.averageWait(0));
        line("queue.restoreSnapshot(0)", queue.restoreSnapshot(0));
    }

    private void script(VirtualQueue queue) {
        putLine(queue, "at 0 wait 1 0; at 5 wait 1 1; at 11 break 0; at 11 redeem 0; at 13 repair 0;");
        line("queue.loadScript()", queue.loadScript());
        line("queue.runScript(13)", queue.runScript(13));
        line("queue.ticketEnd(0)", queue.ticketEnd(0));
        line("queue.ticketExtension(0)", queue.ticketExtension(0));
        line("queue.scriptLength()", queue.scriptLength());
        line("queue.setShare(1, 100)", queue.setShare(1, 100));
        line("queue.ticketParty(2)", queue.ticketParty(2));
        line("queue.exchange(0, 1, 20)", queue.exchange(0, 1, 20));
        line("queue.ticketState(0)", queue.ticketState(0));
        line("queue.bestFinish(0, 1)", queue.bestFinish(0, 1));
    }
}
