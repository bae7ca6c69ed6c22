/** What all tests share: comparing an answer with the one that is due, and typing commands. */
final class Check {
    private int compared;
    private int wrong;
    private String about = "";

    /** Names what the following comparisons are about; it is printed with each of them that fails. */
    void about(String what) {
        about = what.isEmpty() ? "" : "[" + what + "] ";
    }

    int compared() {
        return compared;
    }

    void due(String call, long got, long want) {
        compared++;
        if (got != want) {
            wrong++;
            System.out.println(about + call + " answered " + got + ", due is " + want);
        }
    }

    void holds(String what, boolean condition) {
        compared++;
        if (!condition) {
            wrong++;
            System.out.println(about + "does not hold: " + what);
        }
    }

    /** A player with a video of that many segments and of these levels. */
    static AdaptivePlayer playerOf(int segments, int duration, int... bitrates) {
        AdaptivePlayer player = new AdaptivePlayer();
        player.setVideo(segments, duration);
        for (int bitrate : bitrates) {
            player.addLevel(bitrate);
        }
        return player;
    }

    /** The two values at the ends of a range, those just outside, and the ends of int. */
    static int[] around(int lowest, int highest) {
        return new int[] {
            Integer.MIN_VALUE, -lowest - 1, lowest - 1, lowest, highest, highest + 1, highest + 65536, Integer.MAX_VALUE};
    }

    static boolean isIn(int value, int lowest, int highest) {
        return lowest <= value && value <= highest;
    }

    void levels(String when, AdaptivePlayer player, int... want) {
        for (int segment = 0; segment < want.length; segment++) {
            due(when + ": segmentLevel(" + segment + ")", player.segmentLevel(segment), want[segment]);
        }
    }

    /** Types a text and runs it; the command line has to be empty before. */
    void command(AdaptivePlayer player, String text, int want) {
        for (int i = 0; i < text.length(); i++) {
            due("typeKey('" + text.charAt(i) + "')", player.typeKey(text.charAt(i)), i + 1);
        }
        due("runCommand() of \"" + text + "\"", player.runCommand(), want);
    }

    /** Everything that a session shows of itself, in the order of the document. */
    static int[] shown(AdaptivePlayer player) {
        return new int[] {
            player.time(), player.position(), player.bufferLevel(), player.state(), player.isPaused(),
            player.downloadingSegment(), player.throughputEstimate(), player.switchCount(),
            player.stallCount(), player.stallTime(), player.startupTime(), player.bitrateSum()};
    }

    static final String[] SHOWN_NAMES = {
        "time()", "position()", "bufferLevel()", "state()", "isPaused()",
        "downloadingSegment()", "throughputEstimate()", "switchCount()",
        "stallCount()", "stallTime()", "startupTime()", "bitrateSum()"};

    void shows(String when, AdaptivePlayer player, int... want) {
        int[] got = shown(player);
        for (int i = 0; i < want.length; i++) {
            due(when + ": " + SHOWN_NAMES[i], got[i], want[i]);
        }
    }

    /** A session at its start: all 0 but what is NONE. */
    void atStart(String when, AdaptivePlayer player) {
        shows(when, player, 0, 0, 0, AdaptivePlayer.STARTING, 0,
            AdaptivePlayer.NONE, AdaptivePlayer.NONE, 0, 0, 0, 0, 0);
    }

    void end() {
        System.out.println(compared + " answers compared, " + wrong + " wrong");
        if (wrong != 0 || compared == 0) {
            System.exit(1);
        }
    }
}
