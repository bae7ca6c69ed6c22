/** Promises 25 to 28. */
final class WhatIfBoundaries {
    private static final int NO_SUCH_INDEX = AdaptivePlayer.NO_SUCH_INDEX;

    private final Check check;

    WhatIfBoundaries(Check check) {
        this.check = check;
    }

    void all(Sentences s) {
        s.section("Promise 25");
        s.test("level: the number of a level", this::levelOfASize);
        s.test("segment: the number of a segment", this::segmentOfASize);
        s.test("Returns the size of the segment at the level; NO_SUCH_INDEX.", this::bothWrong);
        s.section("Promise 26");
        String simulates = "Simulates a whole session from its start to the moment when the player is FINISHED or 120000"
            + " milliseconds have passed, with the present video, connection, settings and cap, without pauses, but with"
            + " another policy.";
        s.test(simulates, this::eachPolicy);
        s.test(simulates, this::wholeSessionFromItsStart);
        s.test(simulates, this::presentVideo);
        s.test(simulates, this::presentConnection);
        s.test(simulates, this::presentSettingsAndCap);
        s.test(simulates, this::withoutPauses);
        s.test(simulates, this::stallUntil120000);
        s.test(simulates, this::startUntil120000);
        s.test("The present session is not involved.", this::presentSessionIsNotInvolved);
        s.test("policy: FIXED, RATE, BUFFER or HYBRID", this::policyRange);
        s.test("Returns the stall time at the end of that session; NO_SUCH_INDEX; NO_LEVELS.",
            this::noSuchIndexBeforeNoLevels);
        s.section("Promise 27");
        s.test("Simulates as simulatedStallTime does.", this::segmentAt120000);
        s.test("Simulates as simulatedStallTime does.", this::sumIsOfTheSimulation);
        s.test("policy: FIXED, RATE, BUFFER or HYBRID", this::policyRange);
        s.test("Returns the sum of the bitrates at the end of that session; NO_SUCH_INDEX; NO_LEVELS.",
            this::noSuchIndexBeforeNoLevels);
        s.section("Promise 28");
        s.test("Simulates as simulatedStallTime does, with the policy FIXED and each level as the cap.",
            this::neitherPolicyNorCapCounts);
        s.test("Simulates as simulatedStallTime does, with the policy FIXED and each level as the cap.",
            this::finishedAt120000);
        String best = "Returns the highest level with which the session ends as FINISHED and without a stall; NO_LEVELS;"
            + " NONE if there is no such level.";
        s.test(best, this::highestWithoutAStall);
        s.test(best, this::lowerLevelMayStall);
        s.test(best, this::startingForEver);
        s.test(best, this::noLevels);
    }

    private void levelOfASize() {
        for (int count = 1; count <= 5; count++) {
            AdaptivePlayer p = Check.playerOf(2, 100);
            for (int level = 0; level < count; level++) {
                p.addLevel(level + 1);
            }
            for (int level : Check.around(0, count - 1)) {
                check.due("segmentSize(" + level + ", 1) of " + count + " levels", p.segmentSize(level, 1),
                    Check.isIn(level, 0, count - 1) ? 100 * (level + 1) : NO_SUCH_INDEX);
            }
        }
        check.due("segmentSize(0, 0) without levels", new AdaptivePlayer().segmentSize(0, 0), NO_SUCH_INDEX);
        check.due("segmentSize(-1, 0) without levels", new AdaptivePlayer().segmentSize(-1, 0), NO_SUCH_INDEX);
    }

    private void segmentOfASize() {
        int[] counts = {1, 10, 30};
        for (int count : counts) {
            AdaptivePlayer p = Check.playerOf(count, 100, 1);
            for (int segment : Check.around(0, count - 1)) {
                check.due("segmentSize(0, " + segment + ") of " + count, p.segmentSize(0, segment),
                    Check.isIn(segment, 0, count - 1) ? 100 : NO_SUCH_INDEX);
            }
        }
    }

    private void bothWrong() {
        AdaptivePlayer p = Check.playerOf(2, 101, 7, 9);
        p.setVariation(1, 33);
        int[][] sizes = {{0, 0, 707}, {0, 1, 233}, {1, 0, 909}, {1, 1, 299}, {2, 2, NO_SUCH_INDEX},
            {-1, -1, NO_SUCH_INDEX}, {2, 1, NO_SUCH_INDEX}, {1, 2, NO_SUCH_INDEX}};
        for (int[] size : sizes) {
            check.due("segmentSize(" + size[0] + ", " + size[1] + ")", p.segmentSize(size[0], size[1]), size[2]);
        }
    }

    private void simulated(String when, AdaptivePlayer p, int policy, int stallTime, int bitrateSum) {
        check.due(when + ": simulatedStallTime(" + policy + ")", p.simulatedStallTime(policy), stallTime);
        check.due(when + ": simulatedBitrateSum(" + policy + ")", p.simulatedBitrateSum(policy), bitrateSum);
    }

    /**
     * The lower level takes 50 and 75 ms, the higher one 100 and 150 ms, and the player starts with the first
     * segment, which lasts 100 ms.
     */
    private static AdaptivePlayer twoSegments() {
        AdaptivePlayer p = Check.playerOf(2, 100, 500, 1000);
        p.setBuffer(200, 1);
        p.setVariation(1, 150);
        return p;
    }

    private void eachPolicy() {
        AdaptivePlayer p = twoSegments();
        simulated("FIXED", p, AdaptivePlayer.FIXED, 50, 2000);
        simulated("RATE, with too low a safety", p, AdaptivePlayer.RATE, 0, 1000);
        simulated("BUFFER, with too high a reservoir", p, AdaptivePlayer.BUFFER, 0, 1000);
        simulated("HYBRID", p, AdaptivePlayer.HYBRID, 0, 1000);
        p.setPolicyNumbers(100, 4000, 8000);
        simulated("RATE, with safety enough", p, AdaptivePlayer.RATE, 50, 1500);
        simulated("BUFFER", p, AdaptivePlayer.BUFFER, 0, 1000);
        simulated("HYBRID", p, AdaptivePlayer.HYBRID, 0, 1000);
        p.setPolicyNumbers(99, 0, 100);
        simulated("RATE", p, AdaptivePlayer.RATE, 0, 1000);
        simulated("BUFFER, without a reservoir", p, AdaptivePlayer.BUFFER, 50, 1500);
        simulated("HYBRID", p, AdaptivePlayer.HYBRID, 0, 1000);
        p.setPolicyNumbers(100, 0, 100);
        simulated("HYBRID, with both", p, AdaptivePlayer.HYBRID, 50, 1500);
    }

    private void wholeSessionFromItsStart() {
        AdaptivePlayer p = twoSegments();
        int[] pieces = {1, 99, 99, 1, 1, 49, 1, 99, 1, 60000, 60000};
        for (int piece : pieces) {
            p.advance(piece);
            simulated("at " + p.time(), p, AdaptivePlayer.FIXED, 50, 2000);
        }
        check.command(p, "seek 1", 1);
        simulated("after a seek", p, AdaptivePlayer.FIXED, 50, 2000);
        check.command(p, "policy rate", 1);
        simulated("with another policy in the session", p, AdaptivePlayer.FIXED, 50, 2000);
        simulated("with the same policy as the session", p, AdaptivePlayer.RATE, 0, 1000);
    }

    /** A running download keeps its size, but a simulation begins with the new one. */
    private void presentVideo() {
        AdaptivePlayer p = twoSegments();
        p.advance(150);
        p.setVariation(1, 110);
        simulated("with a new variation", p, AdaptivePlayer.FIXED, 10, 2000);
        p.setVariation(1, 100);
        simulated("with a new variation", p, AdaptivePlayer.FIXED, 0, 2000);
        p.advance(100);
        check.due("stallTime() of the session", p.stallTime(), 50);
        p.addLevel(2000);
        p.setVariation(1, 150);
        simulated("with a new level", p, AdaptivePlayer.FIXED, 200, 4000);
        p.setVideo(1, 100);
        p.addLevel(7);
        simulated("with a new video", p, AdaptivePlayer.FIXED, 0, 7);
    }

    private void presentConnection() {
        AdaptivePlayer p = twoSegments();
        p.addPeriod(100, 1000);
        simulated("at 1000", p, AdaptivePlayer.FIXED, 50, 2000);
        p.addPeriod(10, 0);
        simulated("at 0 from 100 on", p, AdaptivePlayer.FIXED, 120000 - 200, 1000);
        p.addPeriod(1, 1000);
        simulated("at 0 for ten", p, AdaptivePlayer.FIXED, 60, 2000);
        p.advance(60000);
        p.addPeriod(1, 0);
        simulated("at 0 from 111 on, whatever the present time is", p, AdaptivePlayer.FIXED, 120000 - 200, 1000);
    }

    private void presentSettingsAndCap() {
        AdaptivePlayer p = twoSegments();
        p.setBuffer(200, 101);
        simulated("with a higher threshold", p, AdaptivePlayer.FIXED, 0, 2000);
        p.setBuffer(199, 1);
        simulated("with less room", p, AdaptivePlayer.FIXED, 51, 2000);
        p.setBuffer(100, 1);
        simulated("with room for one", p, AdaptivePlayer.FIXED, 150, 2000);
        p.setBuffer(200, 1);
        check.command(p, "cap 1", 1);
        simulated("with cap 1", p, AdaptivePlayer.FIXED, 50, 2000);
        check.command(p, "cap 0", 1);
        for (int policy = 0; policy < 4; policy++) {
            simulated("with cap 0", p, policy, 0, 1000);
        }
    }

    private void withoutPauses() {
        AdaptivePlayer p = twoSegments();
        check.command(p, "pause", 1);
        simulated("paused", p, AdaptivePlayer.FIXED, 50, 2000);
        p.advance(1000);
        simulated("paused", p, AdaptivePlayer.FIXED, 50, 2000);
        check.due("isPaused()", p.isPaused(), 1);
    }

    /** The first segment takes 100 ms and lasts until 200; the second one is complete at the given time. */
    private static AdaptivePlayer secondSegmentAt(int time) {
        AdaptivePlayer p = Check.playerOf(2, 100, 1000);
        p.setBuffer(200, 1);
        p.addPeriod(100, 1000);
        p.addPeriod(59900, 0);
        p.addPeriod(time - 60100, 0);
        p.addPeriod(1, 1000);
        return p;
    }

    private void stallUntil120000() {
        // a stall ends in the millisecond that completes the segment, and that one counts
        check.due("until 119999", secondSegmentAt(119999).simulatedStallTime(0), 119999 - 200);
        check.due("until 120000", secondSegmentAt(120000).simulatedStallTime(0), 120000 - 200);
        check.due("until 120001", secondSegmentAt(120001).simulatedStallTime(0), 120000 - 200);
        AdaptivePlayer p = secondSegmentAt(119999);
        p.addPeriod(1, 0);
        check.due("for ever", p.simulatedStallTime(0), 120000 - 200);
    }

    private void startUntil120000() {
        AdaptivePlayer p = Check.playerOf(1, 100, 10);
        p.addPeriod(1, 0);
        simulated("never starting", p, AdaptivePlayer.FIXED, 0, 0);
        p = Check.playerOf(1, 101, 10);
        p.setBuffer(100, 1);
        simulated("without room for a segment", p, AdaptivePlayer.FIXED, 0, 0);
    }

    /** As a twin shows that is asked for no simulation. */
    private void presentSessionIsNotInvolved() {
        AdaptivePlayer asked = twoSegments();
        AdaptivePlayer twin = twoSegments();
        int[] pieces = {1, 98, 1, 1, 99, 1, 49, 1, 1, 99, 1, 1};
        for (int piece : pieces) {
            for (int policy = 0; policy < 4; policy++) {
                asked.simulatedStallTime(policy);
                asked.simulatedBitrateSum(policy);
            }
            asked.bestSmoothLevel();
            check.due("advance(" + piece + ")", asked.advance(piece), twin.advance(piece));
            check.shows("at " + twin.time(), asked, Check.shown(twin));
            check.levels("at " + twin.time(), asked, twin.segmentLevel(0), twin.segmentLevel(1));
        }
        check.command(asked, "policy fixed", 0);
        check.command(asked, "cap 4", 0);
    }

    private void policyRange() {
        AdaptivePlayer p = Check.playerOf(1, 100, 7);
        for (int policy : Check.around(0, 3)) {
            boolean fine = Check.isIn(policy, 0, 3);
            simulated("with levels", p, policy, fine ? 0 : NO_SUCH_INDEX, fine ? 7 : NO_SUCH_INDEX);
        }
        for (int policy = 0; policy <= 3; policy++) {
            simulated("with levels", p, policy, 0, 7);
        }
    }

    private void noSuchIndexBeforeNoLevels() {
        AdaptivePlayer p = new AdaptivePlayer();
        for (int policy : Check.around(0, 3)) {
            int want = Check.isIn(policy, 0, 3) ? AdaptivePlayer.NO_LEVELS : NO_SUCH_INDEX;
            simulated("without levels", p, policy, want, want);
        }
    }

    private void segmentAt120000() {
        check.due("at 119999", secondSegmentAt(119999).simulatedBitrateSum(0), 2000);
        check.due("at 120000", secondSegmentAt(120000).simulatedBitrateSum(0), 2000);
        check.due("at 120001", secondSegmentAt(120001).simulatedBitrateSum(0), 1000);
    }

    private void sumIsOfTheSimulation() {
        AdaptivePlayer p = Check.playerOf(30, 100, 9000);
        p.setBuffer(60000, 1);
        p.addPeriod(1, 9000);
        check.due("simulatedBitrateSum(0)", p.simulatedBitrateSum(0), 270000);
        p.advance(150);
        check.due("bitrateSum() of the session", p.bitrateSum(), 9000);
        check.due("simulatedBitrateSum(0) again, as it does not add up", p.simulatedBitrateSum(0), 270000);
    }

    private void neitherPolicyNorCapCounts() {
        String[] policies = {"fixed", "rate", "buffer", "hybrid"};
        for (int policy = 0; policy < 4; policy++) {
            for (int cap = 0; cap <= 4; cap++) {
                AdaptivePlayer p = Check.playerOf(5, 100, 500, 1000, 1001);
                p.setBuffer(500, 100);
                check.command(p, "policy " + policies[policy], policy == 0 ? 0 : 1);
                check.command(p, "cap " + cap, cap == 4 ? 0 : 1);
                check.command(p, "pause", 1);
                check.due("bestSmoothLevel() with cap " + cap, p.bestSmoothLevel(), 1);
                check.command(p, "policy " + policies[policy], 0);
                check.command(p, "cap " + cap, 0);
            }
        }
    }

    /** A segment of 100 ms that is complete at 119900 is played at 120000. */
    private void finishedAt120000() {
        int[][] cases = {{59799, 0}, {59800, 0}, {59801, AdaptivePlayer.NONE}};
        for (int[] c : cases) {
            AdaptivePlayer p = Check.playerOf(1, 100, 1000);
            p.addPeriod(60000, 0);
            p.addPeriod(c[0], 0);
            p.addPeriod(1, 1000);
            check.due("bestSmoothLevel() with a wait of " + (60000 + c[0]), p.bestSmoothLevel(), c[1]);
            check.due("simulatedStallTime(0)", p.simulatedStallTime(0), 0);
        }
    }

    /** Segments of 100 ms take as long as they last at a bitrate of 1000. */
    private void highestWithoutAStall() {
        int[][] cases = {{1000, 4}, {999, 3}, {801, 3}, {799, 2}, {600, 2}, {599, 1}, {400, 1}, {399, 0}, {200, 0},
            {199, AdaptivePlayer.NONE}, {9000, 4}, {0, AdaptivePlayer.NONE}};
        for (int[] c : cases) {
            AdaptivePlayer p = Check.playerOf(30, 100, 200, 400, 600, 800, 1000);
            p.setBuffer(3000, 100);
            p.addPeriod(1, c[0]);
            check.due("bestSmoothLevel() at " + c[0], p.bestSmoothLevel(), c[1]);
        }
        // a stall of a single millisecond is one
        AdaptivePlayer p = Check.playerOf(2, 100, 1000);
        p.setBuffer(200, 1);
        check.due("bestSmoothLevel() of 100 percent", p.bestSmoothLevel(), 0);
        p.setVariation(1, 101);
        check.due("bestSmoothLevel() of 101 percent", p.bestSmoothLevel(), AdaptivePlayer.NONE);
        check.due("simulatedStallTime(0)", p.simulatedStallTime(0), 1);
    }

    /** The lower level starts before the connection fails and stalls, the higher one starts only after that. */
    private void lowerLevelMayStall() {
        AdaptivePlayer p = Check.playerOf(2, 100, 10, 11);
        p.setBuffer(500, 100);
        p.addPeriod(1, 1000);
        p.addPeriod(200, 0);
        p.addPeriod(1, 9000);
        check.due("bestSmoothLevel()", p.bestSmoothLevel(), 1);
        check.command(p, "cap 0", 1);
        check.due("simulatedStallTime(0) of level 0", p.simulatedStallTime(0), 101);
    }

    private void startingForEver() {
        AdaptivePlayer p = Check.playerOf(3, 100, 1, 2);
        p.setBuffer(199, 101);
        check.due("a threshold out of reach", p.bestSmoothLevel(), AdaptivePlayer.NONE);
        check.due("simulatedStallTime(0), though without a stall", p.simulatedStallTime(0), 0);
        p.setBuffer(199, 100);
        check.due("a threshold in reach", p.bestSmoothLevel(), 1);
    }

    private void noLevels() {
        AdaptivePlayer p = new AdaptivePlayer();
        check.due("of a new object", p.bestSmoothLevel(), AdaptivePlayer.NO_LEVELS);
        p.addLevel(1);
        check.due("with one level", p.bestSmoothLevel(), 0);
        p.setVideo(1, 100);
        check.due("of a new video", p.bestSmoothLevel(), AdaptivePlayer.NO_LEVELS);
    }
}
