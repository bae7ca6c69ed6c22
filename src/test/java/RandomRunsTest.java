import java.util.Random;

/** Random runs of calls, the same ones each time, answered as ReferencePlayer answers them. */
public final class RandomRunsTest {
    private static final int RUNS = 1500;
    private static final int CALLS = 512;
    /** One run in so many goes up to the highest values that the document allows. */
    private static final int WIDE_RUNS = 5;
    private static final Check check = new Check();
    private static final String[] COMMANDS = {
        "policy fixed", "policy rate", "policy buffer", "policy hybrid", "policy rate", "policy buffer", "policy hybrid",
        "cap 0", "cap 1", "cap 2", "cap 3", "cap 4", "cap 04", "cap 5", "cap", "cap 1 ", "cap 100", "pause", "play", "play",
        "seek 0", "seek 1", "seek 2", "seek 05", "seek 9", "seek 10", "seek 29", "seek 30", "seek", "seek x", "pause 1",
        " play", "policy", "policy x", "rewind"};
    private static final int[] EDGES = {
        Integer.MIN_VALUE, -7, -1, 0, 1, 2, 3, 4, 5, 9, 10, 29, 30, 31, 99, 100, 101, 126, 127, 200, 201, 300, 301,
        5000, 5001, 9000, 9001, 60000, 60001, Integer.MAX_VALUE};

    private final Random random;
    private final int number;
    private final boolean wide;
    private final AdaptivePlayer player = new AdaptivePlayer();
    private final ReferencePlayer reference = new ReferencePlayer();
    private int calls;

    private RandomRunsTest(int number) {
        this.number = number;
        this.wide = number % WIDE_RUNS == 0;
        this.random = new Random(number);
    }

    public static void main(String[] args) {
        for (int number = 0; number < RUNS; number++) {
            new RandomRunsTest(number).run();
        }
        check.end();
    }

    private void run() {
        if (wide) {
            layOutWide();
        } else if (random.nextInt(10) > 0) {
            layOut();
        }
        // the dearest step is a command with its look at the session behind it
        while (calls + 40 < CALLS) {
            step();
            if (random.nextInt(3) == 0) {
                look();
            }
        }
        look();
    }

    private void due(String call, int got, int want) {
        calls++;
        check.due("run " + number + ", call " + calls + ": " + call, got, want);
    }

    private int between(int low, int high) {
        return low + random.nextInt(high - low + 1);
    }

    private int edge() {
        return EDGES[random.nextInt(EDGES.length)];
    }

    /** A video, a connection and settings that fit each other, so that a session comes about. */
    private void layOut() {
        setVideo(between(1, 12), between(100, 900));
        addLevels();
        int periods = between(0, 6);
        for (int i = 0; i < periods; i++) {
            addPeriod(between(1, 3000), random.nextInt(4) == 0 ? 0 : between(50, 3000));
        }
        int maximum = between(300, 6000);
        setBuffer(maximum, between(1, Math.min(maximum, 1500)));
        setPolicyNumbers(between(30, 160), between(0, 1500), between(1, 3000));
    }

    private void layOutWide() {
        setVideo(between(1, 30), between(100, 5000));
        addLevels();
        int periods = between(0, 12);
        for (int i = 0; i < periods; i++) {
            addPeriod(between(1, 60000), random.nextInt(6) == 0 ? 0 : between(50, 9000));
        }
        int maximum = between(5000, 60000);
        setBuffer(maximum, between(1, Math.min(maximum, 15000)));
        setPolicyNumbers(between(1, 200), between(0, 30000), between(1, 30000));
    }

    private void addLevels() {
        int bitrate = between(1, 400);
        int levels = between(1, 5);
        for (int i = 0; i < levels; i++) {
            addLevel(bitrate);
            bitrate += between(1, wide ? 2400 : 700);
        }
    }

    private void step() {
        int kind = random.nextInt(100);
        if (kind < 45) {
            int scale = wide ? 10 : 1;
            advance(random.nextInt(8) == 0 ? between(1, 6000 * scale) : between(1, 400 * scale));
        } else if (kind < 65) {
            command(COMMANDS[random.nextInt(COMMANDS.length)]);
        } else if (kind < 75) {
            settingStep();
        } else if (kind < 80) {
            wrongStep();
        } else if (kind < 81) {
            setVideo(between(1, 30), between(100, wide ? 5000 : 600));
            addLevels();
        } else if (kind < 84) {
            due("restart()", player.restart(), reference.restart());
        } else if (kind < 94) {
            int segment = between(-1, 12);
            due("segmentLevel(" + segment + ")", player.segmentLevel(segment), reference.segmentLevel(segment));
        } else {
            whatIfStep();
        }
    }

    private void settingStep() {
        switch (random.nextInt(6)) {
            case 0 -> setVariation(between(0, 11), random.nextInt(5) == 0 ? 0 : between(0, 300));
            case 1 -> addPeriod(between(1, 8000), between(0, 4000));
            case 2 -> setBuffer(between(100, 4000), between(1, 1000));
            case 3 -> setPolicyNumbers(between(1, 200), between(0, 1000), between(1, 2000));
            case 4 -> addLevel(between(1, 3000));
            default -> setVariation(between(0, 11), between(50, 200));
        }
    }

    private void wrongStep() {
        switch (random.nextInt(9)) {
            case 0 -> setVariation(edge(), edge());
            case 1 -> setBuffer(edge(), edge());
            case 2 -> setPolicyNumbers(edge(), edge(), edge());
            case 3 -> addLevel(edge());
            case 4 -> addPeriod(edge(), edge());
            case 5 -> setVideo(edge(), edge());
            case 6 -> typeKey(edge());
            case 7 -> advance(edge());
            default -> segmentSize(edge(), edge());
        }
    }

    private void whatIfStep() {
        int policy = between(0, 3);
        switch (random.nextInt(5)) {
            case 0 -> due("simulatedStallTime(" + policy + ")",
                player.simulatedStallTime(policy), reference.simulatedStallTime(policy));
            case 1 -> due("simulatedBitrateSum(" + policy + ")",
                player.simulatedBitrateSum(policy), reference.simulatedBitrateSum(policy));
            case 2 -> due("bestSmoothLevel()", player.bestSmoothLevel(), reference.bestSmoothLevel());
            default -> segmentSize(between(-1, 5), between(-1, 12));
        }
    }

    private void look() {
        int[] got = Check.shown(player);
        int[] want = reference.shown();
        for (int i = 0; i < got.length; i++) {
            due(Check.SHOWN_NAMES[i], got[i], want[i]);
        }
    }

    private void setVideo(int segments, int duration) {
        due("setVideo(" + segments + ", " + duration + ")",
            player.setVideo(segments, duration), reference.setVideo(segments, duration));
    }

    private void addLevel(int bitrate) {
        due("addLevel(" + bitrate + ")", player.addLevel(bitrate), reference.addLevel(bitrate));
    }

    private void setVariation(int segment, int percent) {
        due("setVariation(" + segment + ", " + percent + ")",
            player.setVariation(segment, percent), reference.setVariation(segment, percent));
    }

    private void addPeriod(int duration, int rate) {
        due("addPeriod(" + duration + ", " + rate + ")",
            player.addPeriod(duration, rate), reference.addPeriod(duration, rate));
    }

    private void setBuffer(int maximum, int threshold) {
        due("setBuffer(" + maximum + ", " + threshold + ")",
            player.setBuffer(maximum, threshold), reference.setBuffer(maximum, threshold));
    }

    private void setPolicyNumbers(int safety, int reservoir, int cushion) {
        due("setPolicyNumbers(" + safety + ", " + reservoir + ", " + cushion + ")",
            player.setPolicyNumbers(safety, reservoir, cushion),
            reference.setPolicyNumbers(safety, reservoir, cushion));
    }

    private void advance(int milliseconds) {
        due("advance(" + milliseconds + ")", player.advance(milliseconds), reference.advance(milliseconds));
    }

    private void segmentSize(int level, int segment) {
        due("segmentSize(" + level + ", " + segment + ")",
            player.segmentSize(level, segment), reference.segmentSize(level, segment));
    }

    private void typeKey(int character) {
        due("typeKey(" + character + ")", player.typeKey(character), reference.typeKey(character));
    }

    private void command(String text) {
        for (int i = 0; i < text.length(); i++) {
            typeKey(text.charAt(i));
        }
        due("runCommand()", player.runCommand(), reference.runCommand());
    }
}
