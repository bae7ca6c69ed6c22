/** Promises 10 to 24: a session, its milliseconds and what it shows of itself. */
public final class SessionTest {
    private static final Check check = new Check();

    public static void main(String[] args) {
        promise10Restart();
        promise11Advance();
        promise11LastBit();
        promise11SizeZero();
        promise12To16PlayStallFinish();
        promise15StartsWithTheLastSegment();
        promise15NeverReady();
        promise17DownloadingSegment();
        promise18SegmentLevel();
        promise19ThroughputEstimate();
        promise19RoundsDown();
        promise20SwitchCount();
        promise21And22StallsWhilePaused();
        promise23StartupTime();
        promise24BitrateSum();
        policyRate();
        policyRateWithSafety();
        policyBuffer();
        policyHybrid();
        policyFixedUnderTheCap();
        longestSession();
        check.end();
    }

    private static void promise10Restart() {
        AdaptivePlayer p = new AdaptivePlayer();
        check.due("restart() of a new object", p.restart(), 0);
        p.setVideo(3, 100);
        p.addLevel(500);
        p.setVariation(1, 50);
        p.setBuffer(300, 100);
        p.setPolicyNumbers(7, 8, 9);
        p.addPeriod(5, 100);
        check.command(p, "policy rate", 1);
        check.command(p, "cap 2", 1);
        p.advance(777);
        check.command(p, "pause", 1);
        check.due("restart()", p.restart(), 777);
        check.atStart("after restart", p);
        check.due("segmentLevel(0)", p.segmentLevel(0), AdaptivePlayer.NONE);
        check.due("restart() again", p.restart(), 0);
        check.due("setVariation(1, 50)", p.setVariation(1, 50), 50);
        check.due("setBuffer(300, 100)", p.setBuffer(300, 100), 0);
        check.due("setPolicyNumbers(7, 8, 9)", p.setPolicyNumbers(7, 8, 9), 0);
        check.command(p, "policy rate", 0);
        check.command(p, "cap 2", 0);
        check.due("segmentSize(0, 0)", p.segmentSize(0, 0), 50000);
        check.due("addPeriod(5, 10)", p.addPeriod(5, 10), 2);
    }

    private static void promise11Advance() {
        AdaptivePlayer p = new AdaptivePlayer();
        int[] wrong = {0, -1, 60001, Integer.MIN_VALUE, Integer.MAX_VALUE};
        for (int w : wrong) {
            check.due("advance(" + w + ") without levels", p.advance(w), AdaptivePlayer.BAD_VALUE);
        }
        check.due("advance(1) without levels", p.advance(1), AdaptivePlayer.NO_LEVELS);
        check.due("advance(60000) without levels", p.advance(60000), AdaptivePlayer.NO_LEVELS);
        check.due("time()", p.time(), 0);
        p.addLevel(1);
        for (int w : wrong) {
            check.due("advance(" + w + ")", p.advance(w), AdaptivePlayer.BAD_VALUE);
        }
        check.due("time()", p.time(), 0);
        check.due("advance(1)", p.advance(1), 0);
        check.due("advance(1)", p.advance(1), 1);
        check.due("advance(60000)", p.advance(60000), 9);
        check.due("time()", p.time(), 60002);
        check.due("state()", p.state(), AdaptivePlayer.FINISHED);
    }

    /** At a rate of 1000 a size of 1000 bits takes one millisecond, 1001 bits take two. */
    private static void promise11LastBit() {
        AdaptivePlayer p = new AdaptivePlayer();
        p.setVideo(3, 1000);
        p.addLevel(1);
        check.due("advance(1) for 1000 bits", p.advance(1), 1);
        p.setVideo(3, 1001);
        p.addLevel(1);
        check.due("advance(1) for 1001 bits", p.advance(1), 0);
        check.due("advance(1) for the last bit", p.advance(1), 1);
        check.due("throughputEstimate()", p.throughputEstimate(), 500);
        check.due("advance(1), as what was received in excess is lost", p.advance(1), 0);
        check.due("advance(1)", p.advance(1), 1);
    }

    private static void promise11SizeZero() {
        AdaptivePlayer p = new AdaptivePlayer();
        p.setVideo(4, 100);
        p.addLevel(100);
        p.addPeriod(1, 0);
        for (int segment = 0; segment < 4; segment++) {
            p.setVariation(segment, 0);
        }
        check.due("advance(1)", p.advance(1), 1);
        check.due("throughputEstimate() of size 0", p.throughputEstimate(), 0);
        check.due("advance(2)", p.advance(2), 2);
        check.due("advance(5)", p.advance(5), 1);
        check.due("bufferLevel()", p.bufferLevel(), 396);
    }

    /** The threshold is below the duration, and each segment takes twice as long as it plays. */
    private static void promise12To16PlayStallFinish() {
        AdaptivePlayer p = new AdaptivePlayer();
        int none = AdaptivePlayer.NONE;
        p.setVideo(2, 100);
        p.addLevel(2000);
        p.setBuffer(500, 50);
        p.advance(199);
        check.shows("at 199", p, 199, 0, 0, AdaptivePlayer.STARTING, 0, 0, none, 0, 0, 0, 199, 0);
        p.advance(1);
        check.shows("at 200", p, 200, 0, 100, AdaptivePlayer.PLAYING, 0, none, 1000, 0, 0, 0, 200, 2000);
        p.advance(1);
        check.shows("at 201", p, 201, 1, 99, AdaptivePlayer.PLAYING, 0, 1, 1000, 0, 0, 0, 200, 2000);
        p.advance(98);
        check.shows("at 299", p, 299, 99, 1, AdaptivePlayer.PLAYING, 0, 1, 1000, 0, 0, 0, 200, 2000);
        p.advance(1);
        check.shows("at 300", p, 300, 100, 0, AdaptivePlayer.STALLED, 0, 1, 1000, 0, 1, 0, 200, 2000);
        p.advance(1);
        check.shows("at 301", p, 301, 100, 0, AdaptivePlayer.STALLED, 0, 1, 1000, 0, 1, 1, 200, 2000);
        p.advance(98);
        check.shows("at 399", p, 399, 100, 0, AdaptivePlayer.STALLED, 0, 1, 1000, 0, 1, 99, 200, 2000);
        p.advance(1);
        check.shows("at 400", p, 400, 100, 100, AdaptivePlayer.PLAYING, 0, none, 1000, 0, 1, 100, 200, 4000);
        p.advance(99);
        check.shows("at 499", p, 499, 199, 1, AdaptivePlayer.PLAYING, 0, none, 1000, 0, 1, 100, 200, 4000);
        p.advance(1);
        check.shows("at 500", p, 500, 200, 0, AdaptivePlayer.FINISHED, 0, none, 1000, 0, 1, 100, 200, 4000);
        p.advance(1000);
        check.shows("at 1500", p, 1500, 200, 0, AdaptivePlayer.FINISHED, 0, none, 1000, 0, 1, 100, 200, 4000);
    }

    private static void promise15StartsWithTheLastSegment() {
        AdaptivePlayer p = new AdaptivePlayer();
        p.setVideo(2, 100);
        p.addLevel(10);
        p.setBuffer(1000, 500);
        p.advance(1);
        check.shows("below the threshold", p, 1, 0, 100, AdaptivePlayer.STARTING);
        p.advance(1);
        check.shows("there is no next segment", p, 2, 0, 200, AdaptivePlayer.PLAYING);
    }

    private static void promise15NeverReady() {
        AdaptivePlayer p = new AdaptivePlayer();
        p.setVideo(3, 200);
        p.addLevel(10);
        p.setBuffer(300, 300);
        p.advance(5000);
        check.shows("the maximum lets the threshold not be reached", p, 5000, 0, 200, AdaptivePlayer.STARTING, 0,
            AdaptivePlayer.NONE, 1000, 0, 0, 0, 5000, 10);
        p.setBuffer(199, 1);
        p.restart();
        p.advance(5000);
        check.shows("the maximum is below a segment", p, 5000, 0, 0, AdaptivePlayer.STARTING, 0,
            AdaptivePlayer.NONE, AdaptivePlayer.NONE, 0, 0, 0, 5000, 0);
    }

    private static void promise17DownloadingSegment() {
        AdaptivePlayer p = new AdaptivePlayer();
        p.setVideo(2, 100);
        p.addLevel(20);
        check.due("at the start", p.downloadingSegment(), AdaptivePlayer.NONE);
        p.advance(1);
        check.due("at 1", p.downloadingSegment(), 0);
        p.advance(1);
        check.due("at 2", p.downloadingSegment(), AdaptivePlayer.NONE);
        p.advance(1);
        check.due("at 3", p.downloadingSegment(), 1);
        p.advance(1);
        check.due("at 4", p.downloadingSegment(), AdaptivePlayer.NONE);
        p.advance(1);
        check.due("at 5", p.downloadingSegment(), AdaptivePlayer.NONE);
        p.restart();
        p.advance(1);
        p.restart();
        check.due("after restart", p.downloadingSegment(), AdaptivePlayer.NONE);
    }

    private static void promise18SegmentLevel() {
        AdaptivePlayer p = new AdaptivePlayer();
        p.setVideo(3, 100);
        p.addLevel(10);
        p.addLevel(20);
        p.addLevel(30);
        int[] noSegment = {-1, 3, 30, Integer.MIN_VALUE, Integer.MAX_VALUE};
        for (int segment : noSegment) {
            check.due("segmentLevel(" + segment + ")", p.segmentLevel(segment), AdaptivePlayer.NO_SUCH_INDEX);
        }
        p.advance(2);
        check.due("segmentLevel(0) while it is downloaded", p.segmentLevel(0), AdaptivePlayer.NONE);
        check.command(p, "cap 0", 1);
        p.advance(1);
        check.due("segmentLevel(0), chosen before the cap", p.segmentLevel(0), 2);
        p.advance(1);
        check.due("segmentLevel(1)", p.segmentLevel(1), 0);
        check.command(p, "seek 0", 1);
        check.due("segmentLevel(0) after the seek", p.segmentLevel(0), 2);
        p.advance(1);
        check.due("segmentLevel(0), completed again", p.segmentLevel(0), 0);
        check.due("segmentLevel(2)", p.segmentLevel(2), AdaptivePlayer.NONE);
    }

    /** Rates that change with each segment of 1000 bits: 1000, 500, 250 and 100. */
    private static void promise19ThroughputEstimate() {
        AdaptivePlayer p = new AdaptivePlayer();
        p.setVideo(5, 100);
        p.addLevel(10);
        p.addPeriod(1, 1000);
        p.addPeriod(2, 500);
        p.addPeriod(4, 250);
        p.addPeriod(10, 100);
        check.due("none yet", p.throughputEstimate(), AdaptivePlayer.NONE);
        p.advance(1);
        check.due("of one", p.throughputEstimate(), 1000);
        p.advance(2);
        check.due("of two", p.throughputEstimate(), 750);
        p.advance(4);
        check.due("of three", p.throughputEstimate(), 1750 / 3);
        p.advance(10);
        check.due("of the latest three", p.throughputEstimate(), 850 / 3);
        check.command(p, "seek 4", 1);
        check.due("forgotten by a seek", p.throughputEstimate(), AdaptivePlayer.NONE);
        p.advance(10);
        check.due("of one again", p.throughputEstimate(), 100);
        p.restart();
        check.due("forgotten by a new session", p.throughputEstimate(), AdaptivePlayer.NONE);
    }

    private static void promise19RoundsDown() {
        AdaptivePlayer p = new AdaptivePlayer();
        p.setVideo(3, 100);
        p.addLevel(11);
        p.addPeriod(1, 400);
        check.due("advance(3), for 1100 bits at rate 400", p.advance(3), 1);
        check.due("throughputEstimate()", p.throughputEstimate(), 366);
        p.setVariation(1, 0);
        p.advance(1);
        check.due("throughputEstimate() with one of 0", p.throughputEstimate(), 183);
        p.advance(3);
        check.due("throughputEstimate() of three", p.throughputEstimate(), 244);
    }

    private static void promise20SwitchCount() {
        AdaptivePlayer p = new AdaptivePlayer();
        p.setVideo(6, 100);
        p.addLevel(1);
        p.addLevel(2);
        p.addLevel(3);
        int[] caps = {1, 1, 0, 2, 2, 1};
        int[] switches = {0, 0, 1, 2, 2, 3};
        for (int i = 0; i < caps.length; i++) {
            p.typeKey('c');
            p.typeKey('a');
            p.typeKey('p');
            p.typeKey(' ');
            p.typeKey('0' + caps[i]);
            p.runCommand();
            p.advance(1);
            check.due("switchCount() after segment " + i, p.switchCount(), switches[i]);
        }
        check.command(p, "seek 5", 1);
        check.command(p, "cap 0", 1);
        p.advance(1);
        check.due("switchCount() over a seek", p.switchCount(), 4);
        p.restart();
        p.advance(1);
        check.due("switchCount() of a new session", p.switchCount(), 0);
    }

    private static void promise21And22StallsWhilePaused() {
        AdaptivePlayer p = new AdaptivePlayer();
        p.setVideo(3, 100);
        p.addLevel(100);
        p.setBuffer(300, 1);
        p.addPeriod(10, 1000);
        p.addPeriod(190, 0);
        p.addPeriod(20, 500);
        p.addPeriod(180, 0);
        p.addPeriod(10, 1000);
        p.advance(110);
        check.shows("stalled", p, 110, 100, 0, AdaptivePlayer.STALLED, 0, 1, 1000, 0, 1, 0, 10, 100);
        p.advance(5);
        check.due("stallTime()", p.stallTime(), 5);
        check.command(p, "pause", 1);
        p.advance(95);
        check.due("stallTime() paused", p.stallTime(), 5);
        p.advance(50);
        check.shows("still stalled", p, 260, 100, 100, AdaptivePlayer.STALLED, 1);
        check.command(p, "play", 1);
        p.advance(1);
        check.shows("plays on", p, 261, 100, 100, AdaptivePlayer.PLAYING, 0, 2, (1000 + 10000 / 210) / 2, 0, 1, 6);
        p.advance(100);
        check.shows("stalled again", p, 361, 200, 0, AdaptivePlayer.STALLED, 0, 2, (1000 + 10000 / 210) / 2, 0, 2, 6);
        p.advance(49);
        check.shows("the last one is there", p, 410, 200, 100, AdaptivePlayer.PLAYING, 0,
            AdaptivePlayer.NONE, (1000 + 10000 / 210 + 10000 / 190) / 3, 0, 2, 55);
        p.advance(100);
        check.shows("the end", p, 510, 300, 0, AdaptivePlayer.FINISHED);
        check.due("stallCount() at the end", p.stallCount(), 2);
    }

    private static void promise23StartupTime() {
        AdaptivePlayer p = new AdaptivePlayer();
        p.setVideo(3, 100);
        p.addLevel(500);
        p.setBuffer(300, 100);
        p.advance(20);
        check.command(p, "pause", 1);
        p.advance(10);
        check.due("startupTime() paused", p.startupTime(), 20);
        check.command(p, "play", 1);
        p.advance(20);
        check.due("startupTime()", p.startupTime(), 40);
        check.due("state()", p.state(), AdaptivePlayer.PLAYING);
        p.advance(30);
        check.due("startupTime() while PLAYING", p.startupTime(), 40);
        check.command(p, "seek 1", 1);
        p.advance(60);
        check.due("startupTime() after a seek", p.startupTime(), 90);
    }

    private static void promise24BitrateSum() {
        AdaptivePlayer p = new AdaptivePlayer();
        p.setVideo(2, 100);
        p.addLevel(7);
        p.addLevel(11);
        p.advance(1);
        check.due("bitrateSum() before the first is complete", p.bitrateSum(), 0);
        p.advance(1);
        check.due("bitrateSum()", p.bitrateSum(), 11);
        check.command(p, "cap 0", 1);
        p.advance(1);
        check.due("bitrateSum()", p.bitrateSum(), 18);
        check.command(p, "seek 1", 1);
        p.advance(1);
        check.due("bitrateSum(), completed again", p.bitrateSum(), 25);
        p.restart();
        check.due("bitrateSum()", p.bitrateSum(), 0);
    }

    private static AdaptivePlayer withFiveLevels(int segments, String policy) {
        AdaptivePlayer p = new AdaptivePlayer();
        p.setVideo(segments, 100);
        p.addLevel(100);
        p.addLevel(200);
        p.addLevel(400);
        p.addLevel(800);
        p.addLevel(1600);
        check.command(p, "policy " + policy, 1);
        return p;
    }

    private static void checkLevels(String when, AdaptivePlayer p, int... levels) {
        for (int segment = 0; segment < levels.length; segment++) {
            check.due(when + ": segmentLevel(" + segment + ")", p.segmentLevel(segment), levels[segment]);
        }
    }

    /** The throughputs are 1000, then 100 for ever; a safety of 80 leaves 800, 440, 320 and 80 of the estimates. */
    private static void policyRate() {
        AdaptivePlayer p = withFiveLevels(6, "rate");
        p.addPeriod(10, 1000);
        p.addPeriod(1, 100);
        p.advance(5000);
        checkLevels("rate", p, 0, 3, 2, 1, 0, 0);
        check.command(p, "seek 5", 1);
        p.addPeriod(60000, 9000);
        p.advance(1000);
        check.due("segmentLevel(5) without a throughput", p.segmentLevel(5), 0);
        check.command(p, "seek 4", 1);
        p.advance(1000);
        check.due("segmentLevel(5), only throughputs since the seek count", p.segmentLevel(5), 4);
    }

    private static void policyRateWithSafety() {
        // the safety, and the level that is due for an estimate of 1000
        int[][] cases = {{1, 0}, {9, 0}, {10, 0}, {19, 0}, {20, 1}, {39, 1}, {40, 2}, {79, 2}, {80, 3}, {159, 3},
            {160, 4}, {200, 4}};
        for (int[] c : cases) {
            AdaptivePlayer p = withFiveLevels(2, "rate");
            p.setPolicyNumbers(c[0], 0, 1);
            p.advance(1000);
            check.due("segmentLevel(1) with safety " + c[0], p.segmentLevel(1), c[1]);
        }
        AdaptivePlayer p = withFiveLevels(2, "rate");
        p.setPolicyNumbers(200, 0, 1);
        check.command(p, "cap 2", 1);
        p.advance(1000);
        check.due("segmentLevel(1) under a cap", p.segmentLevel(1), 2);
        rateRoundsDown(799, 1);
        rateRoundsDown(800, 0);
    }

    /** An estimate of 999 and a safety of 80 leave 799.2. */
    private static void rateRoundsDown(int bitrate, int level) {
        AdaptivePlayer p = new AdaptivePlayer();
        p.setVideo(2, 999);
        p.addLevel(100);
        p.addLevel(bitrate);
        p.addPeriod(1, 999);
        check.command(p, "policy rate", 1);
        check.due("advance(100)", p.advance(100), 1);
        check.due("throughputEstimate()", p.throughputEstimate(), 999);
        p.advance(1000);
        check.due("segmentLevel(1) with " + bitrate, p.segmentLevel(1), level);
    }

    private static void policyBuffer() {
        // buffers of 0, 100, 200, .. when the levels are chosen, as a paused player does not play
        int[][] cases = {
            // reservoir, cushion, then the levels
            {0, 1, 0, 4, 4, 4, 4, 4},
            {99, 1, 0, 4, 4, 4, 4, 4},
            {100, 1, 0, 0, 4, 4, 4, 4},
            {100, 400, 0, 0, 1, 2, 3, 4},
            {100, 401, 0, 0, 0, 1, 2, 3},
            {99, 400, 0, 0, 1, 2, 3, 4},
            {99, 401, 0, 0, 1, 2, 3, 4},
            {200, 100, 0, 0, 0, 4, 4, 4},
            {200, 101, 0, 0, 0, 3, 4, 4},
            {60000, 60000, 0, 0, 0, 0, 0, 0},
            {0, 60000, 0, 0, 0, 0, 0, 0}};
        for (int[] c : cases) {
            AdaptivePlayer p = withFiveLevels(6, "buffer");
            p.setPolicyNumbers(1, c[0], c[1]);
            check.command(p, "pause", 1);
            p.advance(60000);
            checkLevels("buffer with " + c[0] + ", " + c[1], p, c[2], c[3], c[4], c[5], c[6], c[7]);
        }
        AdaptivePlayer p = withFiveLevels(6, "buffer");
        p.setPolicyNumbers(1, 100, 400);
        check.command(p, "cap 2", 1);
        check.command(p, "pause", 1);
        p.advance(60000);
        checkLevels("buffer with cap 2", p, 0, 0, 0, 1, 1, 2);
    }

    private static void policyHybrid() {
        AdaptivePlayer p = withFiveLevels(6, "hybrid");
        p.setPolicyNumbers(200, 0, 1);
        check.command(p, "pause", 1);
        p.advance(60000);
        checkLevels("one level more each time", p, 0, 1, 2, 3, 4, 4);
        check.command(p, "seek 0", 1);
        p.advance(60000);
        checkLevels("after a seek", p, 0, 1, 2, 3, 4, 4);
        check.command(p, "cap 2", 1);
        check.due("restart()", p.restart(), 120000);
        check.command(p, "pause", 1);
        p.advance(60000);
        checkLevels("under a cap", p, 0, 1, 2, 2, 2, 2);
        p = withFiveLevels(6, "hybrid");
        p.setPolicyNumbers(40, 0, 1);
        check.command(p, "pause", 1);
        p.advance(60000);
        checkLevels("rate is lower", p, 0, 1, 2, 2, 2, 2);
        p = withFiveLevels(6, "hybrid");
        p.setPolicyNumbers(200, 100, 400);
        check.command(p, "pause", 1);
        p.advance(60000);
        checkLevels("buffer is lower", p, 0, 0, 1, 2, 3, 4);
        hybridKeepsTheLatestLevelOverASeek();
    }

    /** The latest completed segment is one of the session: a seek does not forget it. */
    private static void hybridKeepsTheLatestLevelOverASeek() {
        AdaptivePlayer p = withFiveLevels(6, "hybrid");
        p.setPolicyNumbers(200, 0, 1);
        check.command(p, "policy fixed", 1);
        check.command(p, "cap 3", 1);
        check.command(p, "pause", 1);
        p.advance(80);
        check.due("segmentLevel(0)", p.segmentLevel(0), 3);
        check.command(p, "policy hybrid", 1);
        check.command(p, "cap 4", 1);
        p.advance(160);
        check.due("segmentLevel(1), one above", p.segmentLevel(1), 4);
        check.command(p, "seek 0", 1);
        p.advance(10);
        check.due("segmentLevel(0) without a throughput", p.segmentLevel(0), 0);
        check.due("switchCount()", p.switchCount(), 2);
        p.advance(20);
        check.due("segmentLevel(1), one above", p.segmentLevel(1), 1);
    }

    private static void policyFixedUnderTheCap() {
        AdaptivePlayer p = new AdaptivePlayer();
        p.setVideo(2, 100);
        p.addLevel(10);
        p.addLevel(20);
        check.command(p, "cap 3", 1);
        p.advance(2);
        check.due("a cap above the highest level", p.segmentLevel(0), 1);
        check.command(p, "cap 0", 1);
        p.advance(1);
        check.due("a cap of 0", p.segmentLevel(1), 0);
    }

    /** As much time as 512 calls can let pass at the most. */
    private static void longestSession() {
        AdaptivePlayer p = new AdaptivePlayer();
        p.setVideo(30, 5000);
        p.addLevel(9000);
        p.setVariation(0, 300);
        p.addPeriod(1, 1);
        check.due("segmentSize(0, 0)", p.segmentSize(0, 0), 135000000);
        for (int i = 0; i < 500; i++) {
            check.due("advance(60000)", p.advance(60000), 0);
        }
        check.due("time()", p.time(), 30000000);
        check.due("startupTime()", p.startupTime(), 30000000);
        p.addPeriod(60000, 9000);
        check.due("advance(11666), for the missing 105 million bits", p.advance(11666), 0);
        check.due("advance(1)", p.advance(1), 1);
        check.due("throughputEstimate()", p.throughputEstimate(), 135000000 / 30011667);
    }
}
