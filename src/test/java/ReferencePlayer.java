import java.util.ArrayList;
import java.util.HashMap;
import java.util.List;
import java.util.Map;
import java.util.regex.Matcher;
import java.util.regex.Pattern;

/**
 * A second reading of the document, for comparison only: it follows the text sentence by sentence
 * with lists, maps and patterns, and shares no code with AdaptivePlayer.
 */
final class ReferencePlayer {
    private static final Pattern COMMAND =
        Pattern.compile("(policy) (fixed|rate|buffer|hybrid)|(cap|seek) ([0-9]{1,2})|(pause|play)");
    private static final List<String> POLICIES = List.of("fixed", "rate", "buffer", "hybrid");

    private int segments = 10;
    private long duration = 2000;
    private List<Long> bitrates = new ArrayList<>();
    private Map<Integer, Long> variations = new HashMap<>();
    private final List<long[]> periods = new ArrayList<>();
    private long maximum = 20000;
    private long threshold = 2000;
    private long safety = 80;
    private long reservoir = 4000;
    private long cushion = 8000;
    private String policy = "fixed";
    private int cap = 4;
    private String line = "";
    private Run run = new Run();

    /** What a session holds. */
    private static final class Run {
        long time;
        long position;
        long buffer;
        int state;
        boolean paused;
        int next;
        /** Level, size, received bits and time of the download, or null. */
        long[] download;
        List<Long> throughputs = new ArrayList<>();
        /** Segment and level of each completion. */
        List<int[]> completions = new ArrayList<>();
        long stalls;
        long stallTime;
        long startup;
    }

    private static boolean out(long value, long low, long high) {
        return value < low || value > high;
    }

    int setVideo(int newSegments, int newDuration) {
        if (out(newSegments, 1, 30) || out(newDuration, 100, 5000)) {
            return -1;
        }
        segments = newSegments;
        duration = newDuration;
        bitrates = new ArrayList<>();
        variations = new HashMap<>();
        run = new Run();
        return newSegments * newDuration;
    }

    int addLevel(int bitrate) {
        if (out(bitrate, 1, 9000)) {
            return -1;
        }
        for (long other : bitrates) {
            if (bitrate <= other) {
                return -1;
            }
        }
        if (bitrates.size() == 5) {
            return -3;
        }
        bitrates.add((long) bitrate);
        run = new Run();
        return bitrates.size() - 1;
    }

    int setVariation(int segment, int percent) {
        if (out(segment, 0, segments - 1)) {
            return -2;
        }
        if (out(percent, 0, 300)) {
            return -1;
        }
        Long previous = variations.put(segment, (long) percent);
        return previous == null ? 100 : previous.intValue();
    }

    int addPeriod(int length, int rate) {
        if (out(length, 1, 60000) || out(rate, 0, 9000)) {
            return -1;
        }
        if (periods.size() == 12) {
            return -3;
        }
        periods.add(new long[] {length, rate});
        return periods.size();
    }

    int setBuffer(int newMaximum, int newThreshold) {
        if (out(newMaximum, 100, 60000) || out(newThreshold, 1, newMaximum)) {
            return -1;
        }
        boolean same = maximum == newMaximum && threshold == newThreshold;
        maximum = newMaximum;
        threshold = newThreshold;
        return same ? 0 : 1;
    }

    int setPolicyNumbers(int newSafety, int newReservoir, int newCushion) {
        if (out(newSafety, 1, 200) || out(newReservoir, 0, 60000) || out(newCushion, 1, 60000)) {
            return -1;
        }
        boolean same = safety == newSafety && reservoir == newReservoir && cushion == newCushion;
        safety = newSafety;
        reservoir = newReservoir;
        cushion = newCushion;
        return same ? 0 : 1;
    }

    int typeKey(int character) {
        if (out(character, 32, 126)) {
            return -1;
        }
        if (line.length() == 16) {
            return -3;
        }
        line += (char) character;
        return line.length();
    }

    int runCommand() {
        Matcher command = COMMAND.matcher(line);
        line = "";
        if (!command.matches()) {
            return -5;
        }
        if (command.group(1) != null) {
            String before = policy;
            policy = command.group(2);
            return before.equals(policy) ? 0 : 1;
        }
        if (command.group(5) != null) {
            boolean before = run.paused;
            run.paused = command.group(5).equals("pause");
            return before == run.paused ? 0 : 1;
        }
        int number = Integer.parseInt(command.group(4));
        if (command.group(3).equals("cap")) {
            if (number > 4) {
                return -2;
            }
            int before = cap;
            cap = number;
            return before == cap ? 0 : 1;
        }
        if (number >= segments) {
            return -2;
        }
        run.download = null;
        run.buffer = 0;
        run.next = number;
        run.position = number * duration;
        run.state = 0;
        run.throughputs = new ArrayList<>();
        return 1;
    }

    int restart() {
        int end = (int) run.time;
        run = new Run();
        return end;
    }

    int advance(int milliseconds) {
        if (out(milliseconds, 1, 60000)) {
            return -1;
        }
        if (bitrates.isEmpty()) {
            return -4;
        }
        int before = run.completions.size();
        for (int i = 0; i < milliseconds; i++) {
            millisecond(run, policy, cap);
        }
        return run.completions.size() - before;
    }

    private long rate(long time) {
        if (periods.isEmpty()) {
            return 1000;
        }
        long end = 0;
        for (long[] period : periods) {
            end += period[0];
            if (time < end) {
                return period[1];
            }
        }
        return periods.get(periods.size() - 1)[1];
    }

    private long size(int level, int segment) {
        return bitrates.get(level) * duration * variations.getOrDefault(segment, 100L) / 100;
    }

    private void millisecond(Run r, String by, int under) {
        if (r.download == null && r.next != segments && !(r.buffer + duration > maximum)) {
            int level = choose(r, by, Math.min(under, bitrates.size() - 1));
            r.download = new long[] {level, size(level, r.next), 0, 0};
        }
        if (r.download != null) {
            r.download[2] += rate(r.time);
            r.download[3] += 1;
            if (r.download[2] >= r.download[1]) {
                r.throughputs.add(r.download[1] / r.download[3]);
                r.completions.add(new int[] {r.next, (int) r.download[0]});
                r.buffer += duration;
                r.next += 1;
                r.download = null;
            }
        }
        if (!r.paused) {
            playStep(r);
        }
        r.time += 1;
    }

    private void playStep(Run r) {
        boolean waited = r.state == 0 || r.state == 2;
        if (r.state == 1) {
            r.buffer -= 1;
            r.position += 1;
            if (r.buffer == 0) {
                r.state = r.next == segments ? 3 : 2;
                r.stalls += r.state == 2 ? 1 : 0;
            }
        }
        if (waited) {
            if (r.state == 0) {
                r.startup += 1;
            } else {
                r.stallTime += 1;
            }
            boolean enough = r.buffer >= threshold;
            boolean rest = r.next == segments && r.buffer != 0;
            if (enough || rest) {
                r.state = 1;
            }
        }
    }

    private static Long estimate(Run r) {
        int number = Math.min(3, r.throughputs.size());
        if (number == 0) {
            return null;
        }
        long sum = 0;
        for (int i = 1; i <= number; i++) {
            sum += r.throughputs.get(r.throughputs.size() - i);
        }
        return sum / number;
    }

    private int choose(Run r, String by, int c) {
        if (by.equals("fixed")) {
            return c;
        }
        int byRate = 0;
        Long estimate = estimate(r);
        for (int level = 0; estimate != null && level <= c; level++) {
            if (bitrates.get(level) <= estimate * safety / 100) {
                byRate = level;
            }
        }
        if (by.equals("rate")) {
            return byRate;
        }
        int byBuffer;
        if (r.buffer <= reservoir) {
            byBuffer = 0;
        } else if (r.buffer >= reservoir + cushion) {
            byBuffer = c;
        } else {
            byBuffer = (int) ((r.buffer - reservoir) * c / cushion);
        }
        if (by.equals("buffer")) {
            return byBuffer;
        }
        int lower = Math.min(byRate, byBuffer);
        if (!r.completions.isEmpty()) {
            lower = Math.min(lower, r.completions.get(r.completions.size() - 1)[1] + 1);
        }
        return Math.min(lower, c);
    }

    private int switches(Run r) {
        int count = 0;
        for (int i = 1; i < r.completions.size(); i++) {
            if (r.completions.get(i)[1] != r.completions.get(i - 1)[1]) {
                count++;
            }
        }
        return count;
    }

    private int bitrateSum(Run r) {
        long sum = 0;
        for (int[] completion : r.completions) {
            sum += bitrates.get(completion[1]);
        }
        return (int) sum;
    }

    int[] shown() {
        Long estimate = estimate(run);
        return new int[] {
            (int) run.time, (int) run.position, (int) run.buffer, run.state, run.paused ? 1 : 0,
            run.download == null ? -6 : run.next, estimate == null ? -6 : estimate.intValue(), switches(run),
            (int) run.stalls, (int) run.stallTime, (int) run.startup, bitrateSum(run)};
    }

    int segmentLevel(int segment) {
        if (out(segment, 0, segments - 1)) {
            return -2;
        }
        int level = -6;
        for (int[] completion : run.completions) {
            if (completion[0] == segment) {
                level = completion[1];
            }
        }
        return level;
    }

    int segmentSize(int level, int segment) {
        if (out(level, 0, bitrates.size() - 1) || out(segment, 0, segments - 1)) {
            return -2;
        }
        return (int) size(level, segment);
    }

    private Run whole(String by, int under) {
        Run r = new Run();
        while (r.state != 3 && r.time < 120000) {
            millisecond(r, by, under);
        }
        return r;
    }

    int simulatedStallTime(int by) {
        if (out(by, 0, 3)) {
            return -2;
        }
        return bitrates.isEmpty() ? -4 : (int) whole(POLICIES.get(by), cap).stallTime;
    }

    int simulatedBitrateSum(int by) {
        if (out(by, 0, 3)) {
            return -2;
        }
        return bitrates.isEmpty() ? -4 : bitrateSum(whole(POLICIES.get(by), cap));
    }

    int bestSmoothLevel() {
        if (bitrates.isEmpty()) {
            return -4;
        }
        int best = -6;
        for (int level = 0; level < bitrates.size(); level++) {
            Run r = whole("fixed", level);
            if (r.state == 3 && r.stalls == 0) {
                best = level;
            }
        }
        return best;
    }
}
