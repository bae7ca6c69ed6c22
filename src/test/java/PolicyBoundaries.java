/** The policies. */
final class PolicyBoundaries {
    private static final String[] NAMES = {"fixed", "rate", "buffer", "hybrid"};

    private final Check check;

    PolicyBoundaries(Check check) {
        this.check = check;
    }

    void all(Sentences s) {
        s.section("Description");
        s.test("Policies. A policy chooses a level from the levels 0 to c, where c is the lower one of the cap and the"
            + " highest level.", this::capAndHighestLevel);
        s.test("FIXED: level c.", this::fixed);
        String estimate = "RATE: the estimate is the sum of the latest 3 throughputs (of all, if there are fewer) divided"
            + " by their number; only throughputs since the start of the session or the latest seek count.";
        s.test(estimate, this::estimateOfFewerThanThree);
        s.test(estimate, this::estimateAfterASeek);
        s.test(estimate, this::estimateOfANewSession);
        s.test("The level is the highest one from 0 to c of which the bitrate is not greater than estimate * safety /"
            + " 100.", this::bitrateAtTheLimit);
        s.test("The level is the highest one from 0 to c of which the bitrate is not greater than estimate * safety /"
            + " 100.", this::lowestAndHighestSafety);
        s.test("If there is no such level, or no throughput, the level is 0.", this::noSuchLevel);
        s.test("If there is no such level, or no throughput, the level is 0.", this::noThroughput);
        s.test("BUFFER: the level is 0 if the buffer is not greater than the reservoir.", this::atTheReservoir);
        s.test("It is c if the buffer is not less than reservoir + cushion.", this::atReservoirPlusCushion);
        s.test("Otherwise it is (buffer - reservoir) * c / cushion.", this::withinTheCushion);
        String hybrid = "HYBRID: the lower one of the levels of RATE and BUFFER, but not more than one level above the"
            + " level of the latest completed segment of the session, if there is one (and then still not above c).";
        s.test(hybrid, this::lowerOfBoth);
        s.test(hybrid, this::oneLevelAboveTheLatest);
        s.test(hybrid, this::latestSegmentIsOverASeek);
        s.test(hybrid, this::stillNotAboveTheCap);
        s.test(hybrid, this::noLatestSegment);
    }

    /** Segments come in a millisecond each, and no number holds a policy back. */
    private AdaptivePlayer eager(int levels, String policy) {
        AdaptivePlayer p = Check.playerOf(10, 100);
        for (int level = 0; level < levels; level++) {
            p.addLevel(level + 1);
        }
        p.setPolicyNumbers(200, 0, 1);
        choose(p, policy);
        check.command(p, "pause", 1);
        return p;
    }

    private void choose(AdaptivePlayer p, String policy) {
        check.command(p, "policy " + policy, policy.equals("fixed") ? 0 : 1);
    }

    private void capAndHighestLevel() {
        for (String policy : NAMES) {
            for (int levels = 1; levels <= 5; levels++) {
                for (int cap = 0; cap <= 4; cap++) {
                    AdaptivePlayer p = eager(levels, policy);
                    check.command(p, "cap " + cap, cap == 4 ? 0 : 1);
                    p.advance(10);
                    check.due(policy + " of " + levels + " levels with cap " + cap, p.segmentLevel(9),
                        Math.min(cap, levels - 1));
                }
            }
        }
    }

    private void fixed() {
        AdaptivePlayer p = eager(5, "fixed");
        p.advance(1);
        for (int cap = 0; cap <= 4; cap++) {
            check.command(p, "cap " + cap, 1);
            p.advance(1);
        }
        check.levels("FIXED follows the cap", p, 4, 0, 1, 2, 3, 4);
    }

    /** Segments of 1000 bits at rates of 1000, 500, 250, 100 and 100. */
    private AdaptivePlayer slowingDown() {
        AdaptivePlayer p = Check.playerOf(5, 100, 10);
        p.addPeriod(1, 1000);
        p.addPeriod(2, 500);
        p.addPeriod(4, 250);
        p.addPeriod(1, 100);
        return p;
    }

    private void estimateOfFewerThanThree() {
        AdaptivePlayer p = slowingDown();
        int[] times = {1, 2, 4, 10, 10};
        int[] estimates = {1000, 750, 583, 283, 150};
        check.due("of none", p.throughputEstimate(), AdaptivePlayer.NONE);
        for (int i = 0; i < times.length; i++) {
            check.due("advance(" + times[i] + ")", p.advance(times[i]), 1);
            check.due("of " + (i + 1), p.throughputEstimate(), estimates[i]);
        }
    }

    private void estimateAfterASeek() {
        AdaptivePlayer p = slowingDown();
        p.advance(7);
        check.command(p, "seek 3", 1);
        check.due("after a seek", p.throughputEstimate(), AdaptivePlayer.NONE);
        p.advance(9);
        check.due("before the first", p.throughputEstimate(), AdaptivePlayer.NONE);
        p.advance(1);
        check.due("of the first since the seek", p.throughputEstimate(), 100);
        check.command(p, "seek 4", 1);
        check.due("after the latest seek", p.throughputEstimate(), AdaptivePlayer.NONE);
        check.command(p, "seek 99", AdaptivePlayer.NO_SUCH_INDEX);
        p.advance(10);
        check.command(p, "seek 5", AdaptivePlayer.NO_SUCH_INDEX);
        check.due("a seek that is refused forgets nothing", p.throughputEstimate(), 100);
    }

    private void estimateOfANewSession() {
        AdaptivePlayer p = slowingDown();
        p.advance(7);
        check.due("before", p.throughputEstimate(), 583);
        p.restart();
        check.due("at the start", p.throughputEstimate(), AdaptivePlayer.NONE);
        p.advance(1);
        check.due("of one", p.throughputEstimate(), 1000);
    }

    /** The first segment shows a throughput of 1000; a safety of 50 leaves 500. */
    private void bitrateAtTheLimit() {
        int[][] cases = {{499, 999, 1}, {500, 999, 1}, {501, 999, 0}, {499, 500, 2}, {499, 501, 1}, {500, 501, 1},
            {501, 502, 0}};
        for (int[] c : cases) {
            AdaptivePlayer p = Check.playerOf(2, 100, 10, c[0], c[1]);
            p.setPolicyNumbers(50, 0, 1);
            choose(p, "rate");
            p.advance(1000);
            check.levels("with " + c[0] + " and " + c[1], p, 0, c[2]);
        }
    }

    /** The first segment shows a throughput of 1000. */
    private void lowestAndHighestSafety() {
        int[][] cases = {{1, 10, 1}, {1, 11, 0}, {200, 2000, 1}, {200, 2001, 0}};
        for (int[] c : cases) {
            AdaptivePlayer p = Check.playerOf(2, 1000, 1, c[1]);
            p.setPolicyNumbers(c[0], 0, 1);
            choose(p, "rate");
            p.advance(1);
            check.due("throughputEstimate()", p.throughputEstimate(), 1000);
            p.advance(5000);
            check.levels("with a safety of " + c[0] + " and " + c[1], p, 0, c[2]);
        }
    }

    /** A throughput of 550 and a safety of 1 leave 5, and no bitrate is as low as that. */
    private void noSuchLevel() {
        AdaptivePlayer p = Check.playerOf(3, 100, 11, 20);
        p.setPolicyNumbers(1, 0, 1);
        choose(p, "rate");
        p.advance(1000);
        check.levels("too low an estimate", p, 0, 0, 0);
        p = Check.playerOf(3, 100, 1, 2);
        p.setVariation(0, 0);
        choose(p, "rate");
        p.advance(1);
        check.due("an estimate of 0", p.throughputEstimate(), 0);
        p.advance(1);
        check.levels("an estimate of 0", p, 0, 0);
    }

    private void noThroughput() {
        AdaptivePlayer p = eager(5, "rate");
        p.advance(3);
        check.levels("the first has no throughput before it", p, 0, 4, 4);
        check.command(p, "seek 2", 1);
        p.advance(2);
        check.due("segmentLevel(2) right after a seek", p.segmentLevel(2), 0);
        check.due("segmentLevel(3)", p.segmentLevel(3), 4);
        p.restart();
        p.advance(1);
        check.due("segmentLevel(0) of a new session", p.segmentLevel(0), 0);
    }

    /** The buffers at the choices are 0, 100, 200 and so on. */
    private void buffer(int reservoir, int cushion, int... levels) {
        AdaptivePlayer p = eager(5, "buffer");
        p.setPolicyNumbers(1, reservoir, cushion);
        p.advance(10);
        check.levels("reservoir " + reservoir + ", cushion " + cushion, p, levels);
    }

    private void atTheReservoir() {
        buffer(0, 1, 0, 4, 4);
        buffer(99, 1, 0, 4, 4);
        buffer(100, 1, 0, 0, 4);
        buffer(101, 1, 0, 0, 4);
        buffer(199, 1, 0, 0, 4);
        buffer(200, 1, 0, 0, 0, 4);
        buffer(899, 1, 0, 0, 0, 0, 0, 0, 0, 0, 0, 4);
        buffer(900, 1, 0, 0, 0, 0, 0, 0, 0, 0, 0, 0);
        buffer(60000, 60000, 0, 0, 0, 0, 0, 0, 0, 0, 0, 0);
        // the fullest buffer with which a level is ever chosen
        AdaptivePlayer p = Check.playerOf(30, 5000, 1, 2);
        p.setBuffer(60000, 60000);
        p.setPolicyNumbers(1, 54999, 1);
        choose(p, "buffer");
        check.command(p, "pause", 1);
        check.due("advance(60000)", p.advance(60000), 12);
        check.due("segmentLevel(10), at 50000", p.segmentLevel(10), 0);
        check.due("segmentLevel(11), at 55000", p.segmentLevel(11), 1);
    }

    private void atReservoirPlusCushion() {
        buffer(0, 99, 0, 4, 4);
        buffer(0, 100, 0, 4, 4);
        buffer(0, 101, 0, 3, 4);
        buffer(50, 50, 0, 4, 4);
        buffer(50, 51, 0, 3, 4);
        buffer(100, 100, 0, 0, 4, 4);
        buffer(100, 101, 0, 0, 3, 4);
        buffer(0, 60000, 0, 0, 0, 0, 0, 0, 0, 0, 0, 0);
    }

    private void withinTheCushion() {
        buffer(0, 400, 0, 1, 2, 3, 4, 4);
        buffer(0, 401, 0, 0, 1, 2, 3, 4);
        buffer(100, 800, 0, 0, 0, 1, 1, 2, 2, 3, 3, 4);
        buffer(99, 800, 0, 0, 0, 1, 1, 2, 2, 3, 3, 4);
        buffer(101, 800, 0, 0, 0, 0, 1, 1, 2, 2, 3, 3);
        // with the cap 2 the same buffers lead to lower levels
        AdaptivePlayer p = eager(5, "buffer");
        p.setPolicyNumbers(1, 100, 400);
        check.command(p, "cap 2", 1);
        p.advance(10);
        check.levels("with cap 2", p, 0, 0, 0, 1, 1, 2, 2);
        p.restart();
        check.command(p, "cap 0", 1);
        p.advance(10);
        check.levels("with cap 0", p, 0, 0, 0, 0, 0, 0, 0);
    }

    /** The estimate is 1000 from the first segment on, so that with a safety of 30 RATE chooses level 2. */
    private void lowerOfBoth() {
        AdaptivePlayer p = Check.playerOf(8, 100, 100, 200, 300, 400, 500);
        p.setPolicyNumbers(30, 0, 1);
        choose(p, "hybrid");
        check.command(p, "pause", 1);
        p.advance(60000);
        check.levels("RATE is lower", p, 0, 1, 2, 2, 2, 2, 2, 2);
        p.restart();
        check.command(p, "pause", 1);
        p.setPolicyNumbers(200, 200, 400);
        p.advance(60000);
        check.levels("BUFFER is lower", p, 0, 0, 0, 1, 2, 3, 4, 4);
        p.restart();
        check.command(p, "pause", 1);
        p.setPolicyNumbers(30, 200, 400);
        p.advance(60000);
        check.levels("first BUFFER, then RATE", p, 0, 0, 0, 1, 2, 2, 2, 2);
    }

    private void oneLevelAboveTheLatest() {
        AdaptivePlayer p = eager(5, "hybrid");
        p.advance(10);
        check.levels("one level at a time", p, 0, 1, 2, 3, 4, 4, 4, 4, 4, 4);
        p = eager(5, "fixed");
        check.command(p, "cap 2", 1);
        p.advance(1);
        check.command(p, "cap 4", 1);
        check.command(p, "policy hybrid", 1);
        p.advance(1);
        check.levels("one above 2", p, 2, 3);
        check.command(p, "cap 0", 1);
        p.advance(1);
        check.command(p, "cap 4", 1);
        p.advance(1);
        check.levels("down at once, up by one", p, 2, 3, 0, 1);
    }

    /** Right after a seek there is no throughput: the level is 0, and goes up by one from there. */
    private void latestSegmentIsOverASeek() {
        AdaptivePlayer p = eager(5, "hybrid");
        p.advance(5);
        check.levels("up to 4", p, 0, 1, 2, 3, 4);
        check.command(p, "seek 1", 1);
        p.advance(3);
        check.levels("0 without a throughput, then one at a time", p, 0, 0, 1, 2, 4);
        // the latest segment counts, not the one before it in the video
        check.command(p, "seek 5", 1);
        p.advance(2);
        check.due("segmentLevel(5)", p.segmentLevel(5), 0);
        check.due("segmentLevel(6)", p.segmentLevel(6), 1);
    }

    private void stillNotAboveTheCap() {
        AdaptivePlayer p = eager(5, "hybrid");
        check.command(p, "cap 2", 1);
        p.advance(5);
        check.levels("with cap 2", p, 0, 1, 2, 2, 2);
        check.command(p, "cap 1", 1);
        p.advance(1);
        check.due("segmentLevel(5) with cap 1", p.segmentLevel(5), 1);
        p = eager(2, "hybrid");
        p.advance(5);
        check.levels("with two levels", p, 0, 1, 1, 1, 1);
    }

    private void noLatestSegment() {
        AdaptivePlayer p = eager(5, "hybrid");
        p.advance(1);
        check.due("segmentLevel(0)", p.segmentLevel(0), 0);
        p.advance(4);
        p.restart();
        p.advance(1);
        check.due("segmentLevel(0) of a new session", p.segmentLevel(0), 0);
        p.advance(1);
        check.due("segmentLevel(1) of a new session", p.segmentLevel(1), 1);
    }
}
