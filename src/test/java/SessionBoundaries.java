/** Promises 10 to 24. */
final class SessionBoundaries {
    private static final int NONE = AdaptivePlayer.NONE;

    private final Check check;

    SessionBoundaries(Check check) {
        this.check = check;
    }

    void all(Sentences s) {
        calls(s);
        looks(s);
        counters(s);
    }

    private void calls(Sentences s) {
        s.section("What it is");
        s.nothingToTest("A simulator of a video player with adaptive bitrate streaming. The video is cut into segments that"
            + " exist at several quality levels; the player downloads segment after segment over a connection of changing"
            + " rate, chooses the level of each segment by a policy, and plays from a buffer.");
        s.test("An object is used for at most 512 calls after it has been made; what later calls answer is free.",
            this::call512);
        s.test("An object is used for at most 512 calls after it has been made; what later calls answer is free.",
            this::longestSession);
        s.section("Promise 10");
        s.test("Starts a new session.", this::restartsInEachState);
        s.test("The video, the connection and all settings stay.", this::settingsStay);
        s.test("Returns the time at which the old session ends.", this::endOfTheOldSession);
        s.section("Promise 11");
        s.test("Lets time pass.", this::advanceInPieces);
        s.test("milliseconds: 1 to 60000", this::millisecondsRange);
        s.test("Returns the number of segments that became complete; BAD_VALUE; NO_LEVELS.", this::completedSegments);
        s.test("Returns the number of segments that became complete; BAD_VALUE; NO_LEVELS.", this::badValueBeforeNoLevels);
    }

    private void looks(Sentences s) {
        s.section("Promise 12");
        s.test("Returns the time.", this::time);
        s.section("Promise 13");
        s.test("Returns the position in the video.", this::position);
        s.section("Promise 14");
        s.test("Returns the buffer.", this::buffer);
        s.section("Promise 15");
        s.test("Returns STARTING, PLAYING, STALLED or FINISHED.", this::state);
        s.section("Promise 16");
        s.test("Returns 1 if the player is paused, otherwise 0.", this::paused);
        s.section("Promise 17");
        s.test("Returns the number of the segment that is being downloaded; NONE.", this::downloadingSegment);
        s.section("Promise 18");
        s.test("Returns the level at which a segment was completed last in this session.", this::levelOfTheLastTime);
        s.test("segment: the number of a segment", this::segmentOfALevel);
        s.test("Returns the level; NO_SUCH_INDEX; NONE if the segment was not completed in this session.",
            this::notCompleted);
        s.section("Promise 19");
        s.test("Returns the estimate of the policy RATE; NONE if there is none.", this::estimate);
    }

    private void counters(Sentences s) {
        s.section("Promise 20");
        s.test("Counts the segments that were completed at another level than the segment completed before them in this"
            + " session.", this::switches);
        s.test("Returns the number of switches.", this::switchesUpAndDown);
        s.section("Promise 21");
        s.test("Returns the stall count.", this::stallCount);
        s.section("Promise 22");
        s.test("Returns the stall time.", this::stallTime);
        s.section("Promise 23");
        s.test("Returns the startup time.", this::startupTime);
        s.section("Promise 24");
        s.test("Adds up the bitrates of all segments completed in this session; a segment that was completed several times"
            + " counts each time.", this::eachTimeCounts);
        s.test("Returns the sum.", this::largestSum);
    }

    private void call512() {
        AdaptivePlayer p = Check.playerOf(1, 100, 10);
        for (int i = 0; i < 509; i++) {
            p.advance(1);
        }
        check.due("time() as the call 512", p.time(), 509);
        p = new AdaptivePlayer();
        for (int i = 0; i < 511; i++) {
            p.typeKey('x');
        }
        check.due("runCommand() as the call 512", p.runCommand(), AdaptivePlayer.SYNTAX);
        p = new AdaptivePlayer();
        for (int i = 0; i < 511; i++) {
            p.runCommand();
        }
        check.due("typeKey(32) as the call 512", p.typeKey(32), 1);
    }

    /** A download and a start of nearly 30 million milliseconds. */
    private void longestSession() {
        AdaptivePlayer p = Check.playerOf(30, 5000, 9000);
        p.setVariation(0, 300);
        p.addPeriod(1, 4);
        for (int i = 0; i < 490; i++) {
            check.due("advance(60000)", p.advance(60000), 0);
        }
        check.shows("after 490 times", p, 29400000, 0, 0, AdaptivePlayer.STARTING, 0, 0);
        p = Check.playerOf(1, 100, 1);
        p.addPeriod(1, 0);
        for (int i = 0; i < 499; i++) {
            p.advance(60000);
        }
        check.due("startupTime()", p.startupTime(), 29940000);
        check.due("restart()", p.restart(), 29940000);
    }

    private void restartsInEachState() {
        // plays from 10 to 110 and from 210 to 310
        int[] times = {5, 60, 150, 400};
        for (int time : times) {
            for (int paused = 0; paused <= 1; paused++) {
                AdaptivePlayer p = Check.playerOf(2, 100, 100);
                p.setBuffer(200, 100);
                p.addPeriod(10, 1000);
                p.addPeriod(190, 0);
                p.addPeriod(1, 1000);
                p.advance(time);
                if (paused == 1) {
                    check.command(p, "pause", 1);
                }
                check.due("restart() at " + time, p.restart(), time);
                check.atStart("after restart at " + time, p);
                check.levels("after restart", p, NONE, NONE);
                check.due("advance(400), the same again", p.advance(400), 2);
                check.shows("the same again", p, 400, 200, 0, AdaptivePlayer.FINISHED, 0, NONE, 525, 0, 1, 100, 10, 200);
            }
        }
    }

    private void settingsStay() {
        AdaptivePlayer p = Check.playerOf(3, 100, 500, 700);
        p.setVariation(1, 50);
        p.setBuffer(300, 100);
        p.setPolicyNumbers(7, 8, 9);
        p.addPeriod(5, 100);
        check.command(p, "policy rate", 1);
        check.command(p, "cap 2", 1);
        p.advance(777);
        p.restart();
        check.due("setVariation(1, 50)", p.setVariation(1, 50), 50);
        check.due("setBuffer(300, 100)", p.setBuffer(300, 100), 0);
        check.due("setPolicyNumbers(7, 8, 9)", p.setPolicyNumbers(7, 8, 9), 0);
        check.command(p, "policy rate", 0);
        check.command(p, "cap 2", 0);
        check.due("segmentSize(1, 2)", p.segmentSize(1, 2), 70000);
        check.due("segmentSize(2, 2)", p.segmentSize(2, 2), AdaptivePlayer.NO_SUCH_INDEX);
        check.due("segmentSize(1, 3)", p.segmentSize(1, 3), AdaptivePlayer.NO_SUCH_INDEX);
        check.due("addPeriod(5, 10)", p.addPeriod(5, 10), 2);
    }

    private void endOfTheOldSession() {
        AdaptivePlayer p = new AdaptivePlayer();
        check.due("restart() of a new object", p.restart(), 0);
        p.addLevel(1);
        p.advance(1);
        check.due("restart() after 1", p.restart(), 1);
        check.due("restart() at once", p.restart(), 0);
        p.advance(60000);
        p.advance(60000);
        check.command(p, "pause", 1);
        p.advance(60000);
        check.due("restart() after 180000", p.restart(), 180000);
        p.advance(5);
        p.setVideo(1, 100);
        check.due("restart() after another start", p.restart(), 0);
    }

    /** The same time in one piece, in two, and in single milliseconds. */
    private void advanceInPieces() {
        int[][] pieces = {{450, 1}, {225, 2}, {150, 3}, {50, 9}, {1, 450}};
        int[] want = null;
        for (int[] piece : pieces) {
            AdaptivePlayer p = Check.playerOf(6, 100, 300, 900, 1700);
            p.setBuffer(250, 120);
            p.addPeriod(130, 1500);
            p.addPeriod(90, 200);
            p.setPolicyNumbers(90, 50, 150);
            check.command(p, "policy hybrid", 1);
            int completed = 0;
            for (int i = 0; i < piece[1]; i++) {
                completed += p.advance(piece[0]);
            }
            int[] got = Check.shown(p);
            want = want == null ? got : want;
            check.shows("in pieces of " + piece[0], p, want);
            check.holds("segments come", completed > 1);
        }
    }

    private void millisecondsRange() {
        for (int milliseconds : Check.around(1, 60000)) {
            AdaptivePlayer p = Check.playerOf(1, 100, 1);
            p.addPeriod(1, 0);
            boolean fine = Check.isIn(milliseconds, 1, 60000);
            check.due("advance(" + milliseconds + ")", p.advance(milliseconds), fine ? 0 : AdaptivePlayer.BAD_VALUE);
            check.due("time()", p.time(), fine ? milliseconds : 0);
        }
    }

    private void completedSegments() {
        AdaptivePlayer p = Check.playerOf(30, 100, 10);
        check.due("advance(1)", p.advance(1), 1);
        check.due("advance(60000)", p.advance(60000), 29);
        check.due("advance(60000)", p.advance(60000), 0);
        check.command(p, "seek 28", 1);
        check.due("advance(60000) after a seek", p.advance(60000), 2);
        p.setVideo(1, 100);
        check.due("advance(1) without levels", p.advance(1), AdaptivePlayer.NO_LEVELS);
        check.due("time()", p.time(), 0);
        p.addLevel(9000);
        check.due("advance(1), not yet", p.advance(1), 0);
    }

    private void badValueBeforeNoLevels() {
        AdaptivePlayer p = new AdaptivePlayer();
        int[] wrong = {0, -1, 60001, Integer.MIN_VALUE, Integer.MAX_VALUE};
        for (int milliseconds : wrong) {
            check.due("advance(" + milliseconds + ")", p.advance(milliseconds), AdaptivePlayer.BAD_VALUE);
        }
        check.due("advance(1)", p.advance(1), AdaptivePlayer.NO_LEVELS);
        check.due("advance(60000)", p.advance(60000), AdaptivePlayer.NO_LEVELS);
        check.due("time()", p.time(), 0);
    }

    private void time() {
        AdaptivePlayer p = Check.playerOf(1, 100, 10);
        check.due("time() at the start", p.time(), 0);
        p.advance(1);
        check.due("time()", p.time(), 1);
        p.advance(60000);
        check.due("time()", p.time(), 60001);
        check.command(p, "seek 0", 1);
        check.due("time() after a seek", p.time(), 60001);
        p.advance(60001);
        check.due("time() after an error", p.time(), 60001);
    }

    private void position() {
        AdaptivePlayer p = Check.playerOf(30, 5000, 1);
        p.setBuffer(60000, 1);
        check.due("position() at the start", p.position(), 0);
        for (int i = 0; i < 3; i++) {
            p.advance(60000);
        }
        check.due("position() at the end", p.position(), 150000);
        check.command(p, "seek 29", 1);
        check.due("position() of the last segment", p.position(), 145000);
        p.advance(60000);
        check.due("position() at the end", p.position(), 150000);
    }

    private void buffer() {
        AdaptivePlayer p = Check.playerOf(30, 5000, 1);
        p.setBuffer(60000, 60000);
        check.due("bufferLevel() at the start", p.bufferLevel(), 0);
        p.advance(4);
        check.due("bufferLevel() before the first", p.bufferLevel(), 0);
        p.advance(1);
        check.due("bufferLevel()", p.bufferLevel(), 5000);
        p.advance(55);
        check.due("bufferLevel(), as full as can be", p.bufferLevel(), 60000);
        p.advance(1);
        check.due("bufferLevel()", p.bufferLevel(), 59999);
        check.command(p, "seek 0", 1);
        check.due("bufferLevel() after a seek", p.bufferLevel(), 0);
    }

    private void state() {
        AdaptivePlayer p = Check.playerOf(2, 100, 1000);
        p.setBuffer(200, 1);
        p.setVariation(1, 101);
        int[][] states = {{99, AdaptivePlayer.STARTING}, {1, AdaptivePlayer.PLAYING}, {99, AdaptivePlayer.PLAYING},
            {1, AdaptivePlayer.STALLED}, {1, AdaptivePlayer.PLAYING}, {99, AdaptivePlayer.PLAYING},
            {1, AdaptivePlayer.FINISHED}};
        check.due("state() at the start", p.state(), AdaptivePlayer.STARTING);
        for (int[] s : states) {
            p.advance(s[0]);
            check.due("state() at " + p.time(), p.state(), s[1]);
        }
    }

    private void paused() {
        AdaptivePlayer p = new AdaptivePlayer();
        check.due("isPaused() of a new object", p.isPaused(), 0);
        check.command(p, "pause", 1);
        check.due("isPaused()", p.isPaused(), 1);
        check.command(p, "pause", 0);
        check.due("isPaused()", p.isPaused(), 1);
        check.command(p, "pause ", AdaptivePlayer.SYNTAX);
        check.command(p, "play ", AdaptivePlayer.SYNTAX);
        check.due("isPaused()", p.isPaused(), 1);
        check.command(p, "play", 1);
        check.due("isPaused()", p.isPaused(), 0);
        check.command(p, "pause", 1);
        p.restart();
        check.due("isPaused() in a new session", p.isPaused(), 0);
    }

    private void downloadingSegment() {
        AdaptivePlayer p = Check.playerOf(30, 100, 20);
        check.due("at the start", p.downloadingSegment(), NONE);
        for (int segment = 0; segment < 30; segment++) {
            p.advance(1);
            check.due("downloading " + segment, p.downloadingSegment(), segment);
            p.advance(1);
            check.due("after " + segment, p.downloadingSegment(), NONE);
        }
        p.advance(1);
        check.due("behind the last", p.downloadingSegment(), NONE);
        check.command(p, "seek 29", 1);
        check.due("before the first millisecond", p.downloadingSegment(), NONE);
        p.advance(1);
        check.due("downloading the last again", p.downloadingSegment(), 29);
        check.command(p, "pause", 1);
        check.due("downloading while paused", p.downloadingSegment(), 29);
        p.restart();
        check.due("after restart", p.downloadingSegment(), NONE);
        p.setBuffer(100, 1);
        p.advance(3);
        check.due("without room in the buffer", p.downloadingSegment(), NONE);
    }

    private void levelOfTheLastTime() {
        AdaptivePlayer p = Check.playerOf(2, 100, 1, 2, 3, 4, 5);
        int[] caps = {4, 0, 3, 1, 2};
        for (int cap : caps) {
            check.command(p, "seek 0", 1);
            check.command(p, "cap " + cap, cap == 4 ? 0 : 1);
            p.advance(1);
            check.due("segmentLevel(0) with cap " + cap, p.segmentLevel(0), cap);
            check.due("segmentLevel(1)", p.segmentLevel(1), NONE);
        }
    }

    private void segmentOfALevel() {
        int[] counts = {1, 10, 30};
        for (int count : counts) {
            AdaptivePlayer p = Check.playerOf(count, 100, 1);
            p.advance(60000);
            for (int segment : Check.around(0, count - 1)) {
                check.due("segmentLevel(" + segment + ") of " + count, p.segmentLevel(segment),
                    Check.isIn(segment, 0, count - 1) ? 0 : AdaptivePlayer.NO_SUCH_INDEX);
            }
        }
    }

    private void notCompleted() {
        AdaptivePlayer p = Check.playerOf(2, 100, 20);
        check.due("segmentLevel(0) at the start", p.segmentLevel(0), NONE);
        p.advance(1);
        check.due("segmentLevel(0) while it comes", p.segmentLevel(0), NONE);
        p.advance(1);
        check.due("segmentLevel(0)", p.segmentLevel(0), 0);
        check.due("segmentLevel(1)", p.segmentLevel(1), NONE);
        check.due("segmentLevel(2)", p.segmentLevel(2), AdaptivePlayer.NO_SUCH_INDEX);
        check.command(p, "seek 0", 1);
        p.advance(1);
        check.due("segmentLevel(0) while it comes again", p.segmentLevel(0), 0);
        p.restart();
        check.due("segmentLevel(0) in the next session", p.segmentLevel(0), NONE);
        // a shorter video and a longer one behind it have nothing of the first one left
        p = Check.playerOf(30, 100, 1);
        p.advance(60000);
        check.due("segmentLevel(29)", p.segmentLevel(29), 0);
        p.setVideo(1, 100);
        check.due("segmentLevel(29) of a shorter video", p.segmentLevel(29), AdaptivePlayer.NO_SUCH_INDEX);
        p.setVideo(30, 100);
        check.due("segmentLevel(29) of a longer video", p.segmentLevel(29), NONE);
    }

    private void estimate() {
        AdaptivePlayer p = Check.playerOf(2, 100, 10);
        check.due("at the start", p.throughputEstimate(), NONE);
        p.setVariation(0, 0);
        p.advance(1);
        check.due("an estimate of 0 is one", p.throughputEstimate(), 0);
        p.advance(1);
        check.due("of 0 and 1000", p.throughputEstimate(), 500);
        check.command(p, "policy buffer", 1);
        check.due("with another policy", p.throughputEstimate(), 500);
        check.command(p, "seek 1", 1);
        check.due("after a seek", p.throughputEstimate(), NONE);
    }

    private void switches() {
        AdaptivePlayer p = Check.playerOf(3, 100, 1, 2);
        p.advance(1);
        check.due("the first is no switch", p.switchCount(), 0);
        p.advance(1);
        check.due("the same level", p.switchCount(), 0);
        check.command(p, "cap 0", 1);
        check.due("a cap alone", p.switchCount(), 0);
        p.advance(1);
        check.due("another level", p.switchCount(), 1);
        check.command(p, "cap 1", 1);
        check.command(p, "seek 0", 1);
        check.due("a seek alone", p.switchCount(), 1);
        p.advance(1);
        check.due("another level than before the seek", p.switchCount(), 2);
        check.command(p, "seek 2", 1);
        p.advance(1);
        check.due("the same level as before the seek, not as the segment had", p.switchCount(), 2);
        check.command(p, "cap 0", 1);
        p.restart();
        p.advance(1);
        check.due("another level than in the old session", p.switchCount(), 0);
    }

    private void switchesUpAndDown() {
        AdaptivePlayer p = Check.playerOf(30, 100, 1, 2);
        for (int segment = 0; segment < 30; segment++) {
            check.command(p, "cap " + segment % 2, 1);
            p.advance(1);
            check.due("switchCount()", p.switchCount(), segment);
        }
    }

    /** Room for one segment only: the player stalls between all of them, and not at the end. */
    private void stallCount() {
        AdaptivePlayer p = Check.playerOf(30, 100, 10);
        p.setBuffer(100, 1);
        for (int segment = 0; segment < 30; segment++) {
            check.due("advance(1)", p.advance(1), 1);
            check.due("stallCount() before the end of " + segment, p.stallCount(), segment);
            p.advance(99);
            check.due("stallCount() before the end of " + segment, p.stallCount(), segment);
            p.advance(1);
            check.due("stallCount() at the end of " + segment, p.stallCount(), segment == 29 ? 29 : segment + 1);
        }
        check.due("state()", p.state(), AdaptivePlayer.FINISHED);
        check.due("stallTime()", p.stallTime(), 29);
        check.command(p, "seek 29", 1);
        check.due("stallCount() after a seek", p.stallCount(), 29);
        p.restart();
        check.due("stallCount() in the next session", p.stallCount(), 0);
    }

    private void stallTime() {
        AdaptivePlayer p = Check.playerOf(2, 100, 10);
        p.setBuffer(200, 1);
        p.addPeriod(1, 1000);
        p.addPeriod(1, 0);
        p.advance(101);
        check.due("stallTime() when it stalls", p.stallTime(), 0);
        p.advance(1);
        check.due("stallTime() one later", p.stallTime(), 1);
        for (int i = 0; i < 100; i++) {
            p.advance(60000);
        }
        check.due("stallTime() much later", p.stallTime(), 6000001);
        check.due("stallCount()", p.stallCount(), 1);
        check.command(p, "seek 1", 1);
        p.advance(10);
        check.due("stallTime() after a seek, as it is STARTING", p.stallTime(), 6000001);
        p.restart();
        check.due("stallTime() in the next session", p.stallTime(), 0);
    }

    private void startupTime() {
        AdaptivePlayer p = Check.playerOf(2, 100, 1000);
        p.setBuffer(200, 1);
        p.advance(1);
        check.due("startupTime() after 1", p.startupTime(), 1);
        p.advance(98);
        check.due("startupTime() after 99", p.startupTime(), 99);
        p.advance(1);
        check.due("startupTime() when it plays", p.startupTime(), 100);
        p.advance(50);
        check.due("startupTime() while it plays", p.startupTime(), 100);
        check.command(p, "seek 1", 1);
        p.advance(100);
        check.due("startupTime() grows after a seek", p.startupTime(), 200);
        p.advance(1000);
        check.due("startupTime() at the end", p.startupTime(), 200);
        p.restart();
        check.due("startupTime() in the next session", p.startupTime(), 0);
    }

    private void eachTimeCounts() {
        AdaptivePlayer p = Check.playerOf(2, 100, 3, 5);
        for (int i = 1; i <= 20; i++) {
            p.advance(1);
            check.due("bitrateSum() after " + i, p.bitrateSum(), 5 * i);
            check.command(p, "seek 1", 1);
        }
        check.command(p, "cap 0", 1);
        p.advance(1);
        check.due("bitrateSum() with the other level", p.bitrateSum(), 103);
        p.restart();
        check.due("bitrateSum() in the next session", p.bitrateSum(), 0);
    }

    private void largestSum() {
        AdaptivePlayer p = Check.playerOf(30, 100, 9000);
        p.addPeriod(1, 9000);
        check.due("advance(60000)", p.advance(60000), 30);
        check.due("bitrateSum()", p.bitrateSum(), 270000);
        check.command(p, "seek 0", 1);
        p.advance(60000);
        check.due("bitrateSum() of two times", p.bitrateSum(), 540000);
    }
}
