/** A session and the steps of one millisecond. */
final class MillisecondBoundaries {
    private static final int NONE = AdaptivePlayer.NONE;
    private static final int STARTING = AdaptivePlayer.STARTING;
    private static final int PLAYING = AdaptivePlayer.PLAYING;
    private static final int STALLED = AdaptivePlayer.STALLED;
    private static final int FINISHED = AdaptivePlayer.FINISHED;

    private final Check check;

    MillisecondBoundaries(Check check) {
        this.check = check;
    }

    void all(Sentences s) {
        s.section("Description");
        s.test("Session. A session plays the video once.", this::playsOnce);
        s.test("At the start of a session the time is 0, nothing is downloaded, the buffer is empty, the next segment is"
            + " segment 0, all counters are 0, and the player is STARTING.", this::startOfASession);
        s.test("The state of the player is one of STARTING, PLAYING, STALLED and FINISHED.", this::states);
        s.test("Besides, the player may be paused.", this::pausedInEachState);
        s.test("One millisecond. A millisecond passes in these steps.", this::allStepsInOneMillisecond);
        downloads(s);
        playing(s);
    }

    private void downloads(Sentences s) {
        String start = "If no segment is being downloaded, a next segment exists, and the buffer plus the duration of a"
            + " segment is not greater than the maximum buffer, then the player chooses a level by its policy and starts"
            + " to download the next segment at that level.";
        s.test(start, this::onlyOneDownload);
        s.test(start, this::noNextSegment);
        s.test(start, this::justRoomInTheBuffer);
        s.test(start, this::roomComesWithPlaying);
        s.test(start, this::noRoomAtAll);
        s.test(start, this::levelIsChosenAtTheStart);
        s.test("If a segment is being downloaded, it receives as many bits as the rate of the connection at the present"
            + " time, and one millisecond is added to its download time.", this::rateAtThePresentTime);
        s.test("If a segment is being downloaded, it receives as many bits as the rate of the connection at the present"
            + " time, and one millisecond is added to its download time.", this::downloadGoesOnWhilePaused);
        String complete = "If it has received at least its size in bits, it is complete: its throughput is its size"
            + " divided by its download time, the buffer grows by the duration, and the next segment is the one after it.";
        s.test(complete, this::lastBit);
        s.test(complete, this::bitsInExcessAreLost);
        s.test(complete, this::throughputIsOfTheSize);
        s.test("A segment of size 0 is complete after one millisecond, too.", this::sizeZero);
        s.test("A segment of size 0 is complete after one millisecond, too.", this::sizeZeroWithoutARate);
    }

    private void playing(Sentences s) {
        s.test("If the player is PLAYING and not paused, one millisecond of video is played: the buffer shrinks by 1 and"
            + " the position grows by 1.", this::onePlayedMillisecond);
        String empty = "If the buffer is empty now, the player becomes FINISHED if there is no next segment; otherwise it"
            + " becomes STALLED, and the stall count grows by 1.";
        s.test(empty, this::emptyAtTheEnd);
        s.test(empty, this::emptyWhileTheLastSegmentComes);
        s.test(empty, this::segmentInTheLastMoment);
        s.test("If the player is STARTING or STALLED (and was so before this step) and not paused, the startup time grows"
            + " by 1 if it is STARTING, and the stall time grows by 1 if it is STALLED.", this::stallOfOneMillisecond);
        s.test("If the player is STARTING or STALLED (and was so before this step) and not paused, the startup time grows"
            + " by 1 if it is STARTING, and the stall time grows by 1 if it is STALLED.", this::timesWhilePaused);
        String ready = "Then, if the buffer is not less than the threshold, or if there is no next segment and the buffer"
            + " is not empty, the player becomes PLAYING.";
        s.test(ready, this::atTheThreshold);
        s.test(ready, this::stalledUntilTheThreshold);
        s.test(ready, this::lastSegmentBelowTheThreshold);
        s.test(ready, this::thresholdOutOfReach);
        s.test("(So it plays the first millisecond of video in the millisecond after this one.)", this::firstMillisecond);
        s.test("The time grows by 1.", this::timeGrowsAlways);
    }

    private void playsOnce() {
        AdaptivePlayer p = Check.playerOf(2, 100, 10);
        check.due("advance(60000)", p.advance(60000), 2);
        int[] end = Check.shown(p);
        check.shows("the end", p, 60000, 200, 0, FINISHED, 0, NONE, 1000, 0, 0, 0, 2, 20);
        check.due("advance(60000), nothing is left", p.advance(60000), 0);
        end[0] = 120000;
        check.shows("the end", p, end);
    }

    private void startOfASession() {
        AdaptivePlayer p = Check.playerOf(30, 100, 1000, 2000);
        p.setBuffer(300, 1);
        check.command(p, "cap 0", 1);
        p.advance(100);
        check.command(p, "cap 1", 1);
        p.advance(250);
        check.shows("a session with counters", p, 350, 150, 50, PLAYING, 0, 2, 1000, 1, 1, 100, 100, 3000);
        check.command(p, "seek 29", 1);
        p.advance(300);
        check.command(p, "pause", 1);
        check.due("restart()", p.restart(), 650);
        check.atStart("the next session", p);
        for (int segment = 0; segment < 30; segment++) {
            check.due("segmentLevel(" + segment + ")", p.segmentLevel(segment), NONE);
        }
        p.advance(1);
        check.shows("its first millisecond", p, 1, 0, 0, STARTING, 0, 0, NONE, 0, 0, 0, 1, 0);
        check.due("advance(198), nothing of the old download is left", p.advance(198), 0);
        check.due("advance(1)", p.advance(1), 1);
        check.due("switchCount(), as it is the first of this session", p.switchCount(), 0);
    }

    /** Plays from 10 to 110 and from 210 to 310. */
    private static AdaptivePlayer inEachState() {
        AdaptivePlayer p = Check.playerOf(2, 100, 100);
        p.setBuffer(200, 100);
        p.addPeriod(10, 1000);
        p.addPeriod(190, 0);
        p.addPeriod(1, 1000);
        return p;
    }

    private void states() {
        AdaptivePlayer p = inEachState();
        check.due("state() at 0", p.state(), 0);
        int[][] states = {{9, 9, 0}, {1, 10, 1}, {99, 109, 1}, {1, 110, 2}, {99, 209, 2}, {1, 210, 1}, {99, 309, 1},
            {1, 310, 3}, {60000, 60310, 3}};
        for (int[] s : states) {
            p.advance(s[0]);
            check.due("time()", p.time(), s[1]);
            check.due("state() at " + s[1], p.state(), s[2]);
        }
    }

    private void pausedInEachState() {
        int[][] cases = {{5, STARTING, 0}, {60, PLAYING, 50}, {150, STALLED, 100}, {400, FINISHED, 200}};
        for (int[] c : cases) {
            AdaptivePlayer p = inEachState();
            p.advance(c[0]);
            check.command(p, "pause", 1);
            check.due("isPaused()", p.isPaused(), 1);
            p.advance(1000);
            check.shows("paused at " + c[0], p, c[0] + 1000, c[2]);
            check.due("state()", p.state(), c[1]);
            check.due("stallTime()", p.stallTime(), c[0] == 150 ? 40 : c[0] == 400 ? 100 : 0);
            check.due("startupTime()", p.startupTime(), c[0] == 5 ? 5 : 10);
            check.command(p, "play", 1);
            check.due("isPaused()", p.isPaused(), 0);
            check.due("state() is still the same", p.state(), c[1]);
        }
    }

    /** The segment starts, comes and lets the player play, all at once; the next one starts a millisecond later. */
    private void allStepsInOneMillisecond() {
        AdaptivePlayer p = Check.playerOf(2, 100, 10);
        p.setBuffer(200, 100);
        check.due("advance(1)", p.advance(1), 1);
        check.shows("after one", p, 1, 0, 100, PLAYING, 0, NONE, 1000, 0, 0, 0, 1, 10);
        check.due("advance(1)", p.advance(1), 1);
        check.shows("after two", p, 2, 1, 199, PLAYING, 0, NONE, 1000, 0, 0, 0, 1, 20);
    }

    private void onlyOneDownload() {
        AdaptivePlayer p = Check.playerOf(3, 100, 20);
        int[] downloading = {0, NONE, 1, NONE, 2, NONE, NONE};
        int[] completed = {0, 1, 0, 1, 0, 1, 0};
        for (int i = 0; i < completed.length; i++) {
            check.due("advance(1) at " + i, p.advance(1), completed[i]);
            check.due("downloadingSegment() at " + (i + 1), p.downloadingSegment(), downloading[i]);
        }
    }

    private void noNextSegment() {
        AdaptivePlayer p = Check.playerOf(1, 100, 10);
        p.setBuffer(60000, 1);
        check.due("advance(1)", p.advance(1), 1);
        check.due("advance(50), while it plays", p.advance(50), 0);
        check.due("downloadingSegment()", p.downloadingSegment(), NONE);
        check.due("advance(50), at the end", p.advance(50), 0);
        check.shows("at the end", p, 101, 100, 0, FINISHED, 0, NONE);
        check.due("advance(1), behind the end", p.advance(1), 0);
    }

    private void justRoomInTheBuffer() {
        int[][] cases = {{100, 1}, {199, 1}, {200, 2}, {201, 2}, {299, 2}, {300, 3}, {301, 3}};
        for (int[] c : cases) {
            AdaptivePlayer p = Check.playerOf(5, 100, 10);
            p.setBuffer(c[0], 1);
            check.command(p, "pause", 1);
            check.due("advance(60000) with a maximum of " + c[0], p.advance(60000), c[1]);
            check.due("bufferLevel()", p.bufferLevel(), 100 * c[1]);
        }
    }

    /** With a maximum of 199 the second segment starts when one millisecond is played. */
    private void roomComesWithPlaying() {
        AdaptivePlayer p = Check.playerOf(3, 100, 10);
        p.setBuffer(199, 1);
        check.due("advance(1)", p.advance(1), 1);
        check.due("bufferLevel()", p.bufferLevel(), 100);
        check.due("advance(1)", p.advance(1), 0);
        check.due("bufferLevel()", p.bufferLevel(), 99);
        check.due("advance(1)", p.advance(1), 1);
        check.due("bufferLevel()", p.bufferLevel(), 198);
        check.due("advance(99)", p.advance(99), 0);
        check.due("bufferLevel()", p.bufferLevel(), 99);
        check.due("advance(1)", p.advance(1), 1);
    }

    private void noRoomAtAll() {
        AdaptivePlayer p = Check.playerOf(1, 101, 10);
        p.setBuffer(100, 1);
        check.due("advance(60000)", p.advance(60000), 0);
        check.shows("no segment ever fits", p, 60000, 0, 0, STARTING, 0, NONE, NONE, 0, 0, 0, 60000, 0);
        p.setBuffer(101, 1);
        check.due("advance(2)", p.advance(2), 1);
    }

    private void levelIsChosenAtTheStart() {
        AdaptivePlayer p = Check.playerOf(2, 100, 10, 20, 30);
        check.command(p, "cap 1", 1);
        check.due("advance(1)", p.advance(1), 0);
        check.command(p, "cap 0", 1);
        check.command(p, "policy rate", 1);
        check.due("advance(1)", p.advance(1), 1);
        check.due("segmentLevel(0)", p.segmentLevel(0), 1);
        check.due("bitrateSum()", p.bitrateSum(), 20);
        check.due("advance(1)", p.advance(1), 1);
        check.due("segmentLevel(1)", p.segmentLevel(1), 0);
        // a download that has begun is not given up for want of room
        p = Check.playerOf(2, 100, 20);
        p.advance(3);
        p.setBuffer(100, 1);
        check.due("advance(1) with a maximum of 100", p.advance(1), 1);
        check.due("bufferLevel()", p.bufferLevel(), 200);
    }

    private void rateAtThePresentTime() {
        AdaptivePlayer p = Check.playerOf(1, 100, 10);
        p.addPeriod(1, 1000);
        p.addPeriod(1, 0);
        check.due("advance(1), the rate of time 0", p.advance(1), 1);
        check.due("throughputEstimate()", p.throughputEstimate(), 1000);
        p = Check.playerOf(1, 100, 10);
        p.addPeriod(1, 0);
        p.addPeriod(1, 1000);
        check.due("advance(1), the rate of time 0", p.advance(1), 0);
        check.due("advance(1), the rate of time 1", p.advance(1), 1);
        check.due("throughputEstimate(), a millisecond without a bit counts", p.throughputEstimate(), 500);
    }

    private void downloadGoesOnWhilePaused() {
        AdaptivePlayer p = Check.playerOf(3, 100, 1000);
        check.command(p, "pause", 1);
        check.due("advance(99)", p.advance(99), 0);
        check.due("advance(1)", p.advance(1), 1);
        check.due("advance(200)", p.advance(200), 2);
        check.shows("paused", p, 300, 0, 300, STARTING, 1, NONE, 1000, 0, 0, 0, 0, 3000);
    }

    private void lastBit() {
        int[][] cases = {{100, 1}, {99, 1}, {101, 2}, {200, 2}, {201, 3}, {300, 3}};
        for (int[] c : cases) {
            AdaptivePlayer p = Check.playerOf(2, 100, 1);
            p.setVariation(0, c[0]);
            p.addPeriod(1, 100);
            for (int i = 1; i < c[1]; i++) {
                check.due("advance(1) no. " + i + " for " + c[0] + " bits", p.advance(1), 0);
                check.shows("not complete", p, i, 0, 0, STARTING, 0, 0, NONE);
            }
            check.due("advance(1) no. " + c[1] + " for " + c[0] + " bits", p.advance(1), 1);
            check.shows("complete", p, c[1], 0, 100, STARTING, 0, NONE, c[0] / c[1]);
            p.advance(1);
            check.due("segmentLevel(1)", p.segmentLevel(1), 0);
        }
    }

    private void bitsInExcessAreLost() {
        AdaptivePlayer p = Check.playerOf(3, 100, 1);
        p.addPeriod(1, 99);
        int[] completed = {0, 1, 0, 1, 0, 1};
        for (int i = 0; i < completed.length; i++) {
            check.due("advance(1) at " + i, p.advance(1), completed[i]);
        }
    }

    /** 100 bits at a rate of 9000, and at a rate of 99. */
    private void throughputIsOfTheSize() {
        AdaptivePlayer p = Check.playerOf(2, 100, 1);
        p.addPeriod(1, 9000);
        p.addPeriod(1, 99);
        p.advance(1);
        check.due("throughputEstimate(), not the rate", p.throughputEstimate(), 100);
        p.advance(2);
        check.due("throughputEstimate() of 100 and 50", p.throughputEstimate(), 75);
    }

    private void sizeZero() {
        AdaptivePlayer p = Check.playerOf(3, 100, 9000);
        p.setVariation(0, 0);
        p.setVariation(1, 0);
        check.due("advance(1)", p.advance(1), 1);
        check.shows("the first", p, 1, 0, 100, STARTING, 0, NONE, 0, 0, 0, 0, 1, 9000);
        check.due("advance(1), not two at once", p.advance(1), 1);
        check.shows("the second", p, 2, 0, 200, STARTING, 0, NONE, 0, 0, 0, 0, 2, 18000);
        check.due("advance(899)", p.advance(899), 0);
        check.due("advance(1)", p.advance(1), 1);
        check.due("throughputEstimate() of 0, 0 and 1000", p.throughputEstimate(), 333);
    }

    private void sizeZeroWithoutARate() {
        AdaptivePlayer p = Check.playerOf(2, 100, 1);
        p.addPeriod(60000, 0);
        p.setVariation(0, 0);
        check.due("advance(1) at a rate of 0", p.advance(1), 1);
        check.due("throughputEstimate()", p.throughputEstimate(), 0);
        check.due("advance(60000) for a segment with bits", p.advance(60000), 0);
        check.due("downloadingSegment()", p.downloadingSegment(), 1);
    }

    private void onePlayedMillisecond() {
        AdaptivePlayer p = Check.playerOf(1, 100, 10);
        p.advance(1);
        for (int i = 1; i < 100; i++) {
            p.advance(1);
            check.due("position() after " + i, p.position(), i);
            check.due("bufferLevel() after " + i, p.bufferLevel(), 100 - i);
        }
        check.command(p, "pause", 1);
        p.advance(500);
        check.shows("paused", p, 600, 99, 1, PLAYING, 1);
        check.command(p, "play", 1);
        p.advance(1);
        check.shows("the last", p, 601, 100, 0, FINISHED);
    }

    private void emptyAtTheEnd() {
        AdaptivePlayer p = Check.playerOf(1, 100, 10);
        p.advance(100);
        check.shows("one millisecond is left", p, 100, 99, 1, PLAYING);
        p.advance(1);
        check.shows("no stall at the end", p, 101, 100, 0, FINISHED, 0, NONE, 1000, 0, 0, 0, 1, 10);
    }

    private void emptyWhileTheLastSegmentComes() {
        AdaptivePlayer p = Check.playerOf(2, 100, 10);
        p.setBuffer(100, 100);
        check.due("advance(100)", p.advance(100), 1);
        check.shows("before", p, 100, 99, 1, PLAYING, 0, NONE);
        check.due("advance(1)", p.advance(1), 0);
        check.shows("not even begun: STALLED", p, 101, 100, 0, STALLED, 0, NONE, 1000, 0, 1, 0);
        p = Check.playerOf(2, 100, 10);
        p.addPeriod(1, 1000);
        p.addPeriod(1, 1);
        p.setBuffer(200, 100);
        p.advance(101);
        check.shows("nearly there: STALLED", p, 101, 100, 0, STALLED, 0, 1, 1000, 0, 1, 0);
    }

    /** The second segment takes 99, 100 or 101 ms; the buffer lasts for 100. */
    private void segmentInTheLastMoment() {
        int[][] cases = {{99, 0, 0}, {100, 0, 0}, {101, 1, 1}, {102, 1, 2}};
        for (int[] c : cases) {
            AdaptivePlayer p = Check.playerOf(2, 100, 1000);
            p.setBuffer(200, 1);
            p.setVariation(1, c[0]);
            p.advance(200);
            check.due("stallCount() at 200 with " + c[0], p.stallCount(), c[1]);
            check.due("bufferLevel() at 200", p.bufferLevel(), c[1] == 0 ? 100 : 0);
            p.advance(1000);
            check.due("stallCount() with " + c[0], p.stallCount(), c[1]);
            check.due("stallTime() with " + c[0], p.stallTime(), c[2]);
            check.due("state()", p.state(), FINISHED);
        }
    }

    /** The millisecond in which the player stalls does not count, the one in which it plays again does. */
    private void stallOfOneMillisecond() {
        AdaptivePlayer p = Check.playerOf(2, 100, 1000);
        p.setBuffer(200, 1);
        p.setVariation(1, 101);
        p.advance(99);
        check.shows("starting", p, 99, 0, 0, STARTING, 0, 0, NONE, 0, 0, 0, 99);
        p.advance(1);
        check.shows("playing", p, 100, 0, 100, PLAYING, 0, NONE, 1000, 0, 0, 0, 100);
        p.advance(100);
        check.shows("stalled", p, 200, 100, 0, STALLED, 0, 1, 1000, 0, 1, 0, 100);
        p.advance(1);
        check.shows("playing again", p, 201, 100, 100, PLAYING, 0, NONE, 1000, 0, 1, 1, 100);
        p.advance(1);
        check.shows("the time stays", p, 202, 101, 99, PLAYING, 0, NONE, 1000, 0, 1, 1, 100);
    }

    private void timesWhilePaused() {
        AdaptivePlayer p = inEachState();
        check.command(p, "pause", 1);
        p.advance(9);
        check.command(p, "play", 1);
        p.advance(1);
        check.shows("only one of ten counts", p, 10, 0, 100, PLAYING, 0, NONE, 1000, 0, 0, 0, 1);
        p.advance(100);
        check.shows("stalled", p, 110, 100, 0, STALLED);
        check.command(p, "pause", 1);
        p.advance(150);
        check.shows("the segment came in the pause", p, 260, 100, 100, STALLED, 1, NONE, 525, 0, 1, 0, 1);
        check.command(p, "play", 1);
        p.advance(1);
        check.shows("one counts", p, 261, 100, 100, PLAYING, 0, NONE, 525, 0, 1, 1, 1);
    }

    private void atTheThreshold() {
        int[][] cases = {{100, 1}, {101, 2}, {200, 2}, {201, 3}, {1, 1}, {99, 1}};
        for (int[] c : cases) {
            AdaptivePlayer p = Check.playerOf(5, 100, 10);
            p.setBuffer(500, c[0]);
            for (int i = 0; i < c[1]; i++) {
                check.due("state() below " + c[0], p.state(), STARTING);
                p.advance(1);
            }
            check.shows("not below " + c[0], p, c[1], 0, 100 * c[1], PLAYING);
            check.due("startupTime()", p.startupTime(), c[1]);
        }
    }

    /** The first segment alone lets the player start, as the threshold is set to two segments only later. */
    private void stalledUntilTheThreshold() {
        AdaptivePlayer p = Check.playerOf(5, 100, 1000);
        p.setVariation(1, 200);
        p.setBuffer(500, 100);
        p.advance(200);
        check.shows("stalled", p, 200, 100, 0, STALLED, 0, 1);
        p.setBuffer(500, 101);
        p.advance(100);
        check.shows("one segment is not enough", p, 300, 100, 100, STALLED, 0, NONE, 1000, 0, 1, 100);
        p.advance(99);
        check.due("state()", p.state(), STALLED);
        p.advance(1);
        check.shows("two are", p, 400, 100, 200, PLAYING, 0, NONE, 1000, 0, 1, 200);
    }

    private void lastSegmentBelowTheThreshold() {
        AdaptivePlayer p = Check.playerOf(2, 100, 10);
        p.setBuffer(20000, 201);
        p.advance(1);
        check.shows("a next segment exists", p, 1, 0, 100, STARTING);
        p.advance(1);
        check.shows("none exists", p, 2, 0, 200, PLAYING);
        check.command(p, "seek 1", 1);
        p.advance(1);
        check.shows("the last one alone", p, 3, 100, 100, PLAYING);
    }

    private void thresholdOutOfReach() {
        AdaptivePlayer p = Check.playerOf(3, 100, 10);
        p.setBuffer(199, 101);
        p.advance(60000);
        check.shows("no room for a second segment", p, 60000, 0, 100, STARTING, 0, NONE, 1000, 0, 0, 0, 60000, 10);
        p.setBuffer(199, 100);
        p.advance(1);
        check.due("state() with a lower threshold", p.state(), PLAYING);
    }

    private void firstMillisecond() {
        AdaptivePlayer p = Check.playerOf(1, 100, 10);
        p.advance(1);
        check.shows("it plays from now on", p, 1, 0, 100, PLAYING);
        p.advance(1);
        check.shows("the first is played", p, 2, 1, 99, PLAYING);
        p = inEachState();
        p.advance(210);
        check.shows("it plays again from now on", p, 210, 100, 100, PLAYING);
        p.advance(1);
        check.shows("the next is played", p, 211, 101, 99, PLAYING);
    }

    private void timeGrowsAlways() {
        int[] times = {0, 5, 60, 150, 400};
        for (int time : times) {
            AdaptivePlayer p = inEachState();
            if (time > 0) {
                p.advance(time);
            }
            for (int i = 1; i <= 20; i++) {
                p.advance(1);
                check.due("time() in state " + p.state(), p.time(), time + i);
            }
            check.command(p, "pause", 1);
            p.advance(1);
            check.due("time() when paused", p.time(), time + 21);
        }
    }
}
