/** Units, video and connection. */
final class VideoBoundaries {
    private final Check check;

    VideoBoundaries(Check check) {
        this.check = check;
    }

    void all(Sentences s) {
        s.section("Description");
        s.test("Units. Times and the buffer are in milliseconds.", this::timesAreMilliseconds);
        s.test("Rates and bitrates are in kilobits per second, which is the same as bits per millisecond.",
            this::ratesAreBitsPerMillisecond);
        s.test("Sizes are in bits.", this::sizesAreBits);
        s.test("Every division in this document rounds down; all dividends are 0 or greater.", this::sizeRoundsDown);
        s.test("Every division in this document rounds down; all dividends are 0 or greater.",
            this::throughputAndEstimateRoundDown);
        s.test("Every division in this document rounds down; all dividends are 0 or greater.", this::safetyRoundsDown);
        s.test("Every division in this document rounds down; all dividends are 0 or greater.",
            this::levelOfTheBufferRoundsDown);
        s.test("All products and sums are exact (some intermediate products need more than 32 bits).",
            this::productsAreExact);
        s.test("All products and sums are exact (some intermediate products need more than 32 bits).",
            this::sumsAreExact);
        s.test("Video. A video has a number of segments, numbered from 0, that all last the same duration, and up to 5"
            + " quality levels, numbered from 0 by ascending bitrate.", this::numbersOfSegmentsAndLevels);
        s.test("Each segment has a variation in percent, 100 at first.", this::variationAtFirst);
        s.test("The size of a segment at a level is bitrate * duration * variation / 100.", this::sizes);
        s.test("Connection. The rate of the connection is given by up to 12 periods that follow each other from time 0"
            + " on.", this::twelvePeriods);
        s.test("Each period has a duration and a rate.", this::shortestAndLongestPeriod);
        s.test("At the end of the last period the connection keeps its rate for ever.", this::lastRateStays);
        s.test("Without periods the rate is 1000.", this::rateWithoutPeriods);
        s.test("A rate may be 0.", this::rateOfZero);
    }

    private void timesAreMilliseconds() {
        AdaptivePlayer p = Check.playerOf(1, 100, 10);
        p.setBuffer(100, 1);
        p.advance(1);
        check.shows("after 1 ms", p, 1, 0, 100, AdaptivePlayer.PLAYING);
        p.advance(99);
        check.shows("after 100 ms", p, 100, 99, 1, AdaptivePlayer.PLAYING);
        p.advance(1);
        check.shows("after 101 ms", p, 101, 100, 0, AdaptivePlayer.FINISHED);
    }

    /** A video of 7 kilobits per second and 100 ms takes 100 ms at a rate of 7. */
    private void ratesAreBitsPerMillisecond() {
        AdaptivePlayer p = Check.playerOf(1, 100, 7);
        p.addPeriod(1, 7);
        check.due("advance(99)", p.advance(99), 0);
        check.due("advance(1)", p.advance(1), 1);
        check.due("throughputEstimate()", p.throughputEstimate(), 7);
    }

    private void sizesAreBits() {
        AdaptivePlayer p = Check.playerOf(1, 100, 1);
        p.setVariation(0, 2);
        p.addPeriod(1, 1);
        check.due("segmentSize(0, 0)", p.segmentSize(0, 0), 2);
        check.due("advance(1), a bit is missing", p.advance(1), 0);
        check.due("advance(1)", p.advance(1), 1);
    }

    private void sizeRoundsDown() {
        AdaptivePlayer p = Check.playerOf(1, 101, 1);
        int[][] sizes = {{0, 0}, {1, 1}, {50, 50}, {98, 98}, {99, 99}, {100, 101}, {101, 102}, {299, 301}, {300, 303}};
        for (int[] size : sizes) {
            p.setVariation(0, size[0]);
            check.due("segmentSize(0, 0) of " + size[0] + " percent", p.segmentSize(0, 0), size[1]);
        }
    }

    /** Throughputs of 1000, 333.3 and 333.3. */
    private void throughputAndEstimateRoundDown() {
        AdaptivePlayer p = Check.playerOf(3, 100, 10);
        p.addPeriod(1, 1000);
        p.addPeriod(1, 400);
        check.due("advance(1)", p.advance(1), 1);
        check.due("estimate of 1000", p.throughputEstimate(), 1000);
        check.due("advance(3)", p.advance(3), 1);
        check.due("estimate of 1000 and 333", p.throughputEstimate(), 666);
        check.due("advance(3)", p.advance(3), 1);
        check.due("estimate of 1000, 333 and 333", p.throughputEstimate(), 555);
    }

    /** An estimate of 999 and a safety of 80 leave 799.2. */
    private void safetyRoundsDown() {
        int[][] cases = {{799, 1}, {800, 0}};
        for (int[] c : cases) {
            AdaptivePlayer p = Check.playerOf(2, 999, 100, c[0]);
            p.addPeriod(1, 999);
            check.command(p, "policy rate", 1);
            check.due("advance(100)", p.advance(100), 1);
            check.due("throughputEstimate()", p.throughputEstimate(), 999);
            p.advance(1000);
            check.levels("with a bitrate of " + c[0], p, 0, c[1]);
        }
    }

    /** A buffer of 100 and the top level 4: 400 / 401 is level 0, 400 / 400 is 1, 400 / 201 is 1, 400 / 200 is 2. */
    private void levelOfTheBufferRoundsDown() {
        int[][] cases = {{401, 0}, {400, 1}, {201, 1}, {200, 2}, {134, 2}, {133, 3}, {101, 3}, {100, 4}};
        for (int[] c : cases) {
            AdaptivePlayer p = Check.playerOf(2, 100, 10, 20, 30, 40, 50);
            p.setPolicyNumbers(1, 0, c[0]);
            check.command(p, "policy buffer", 1);
            check.command(p, "pause", 1);
            p.advance(100);
            check.levels("with a cushion of " + c[0], p, 0, c[1]);
        }
    }

    /** The products pass 2 to the power of 31 between 47 and 48 percent, and of 32 between 95 and 96. */
    private void productsAreExact() {
        AdaptivePlayer p = Check.playerOf(30, 5000, 9000);
        int[][] sizes = {{47, 21150000}, {48, 21600000}, {95, 42750000}, {96, 43200000}, {100, 45000000},
            {299, 134550000}, {300, 135000000}};
        for (int[] size : sizes) {
            p.setVariation(29, size[0]);
            check.due("segmentSize(0, 29) of " + size[0] + " percent", p.segmentSize(0, 29), size[1]);
        }
        p.addPeriod(1, 9000);
        check.command(p, "seek 29", 1);
        check.due("advance(14999)", p.advance(14999), 0);
        check.due("advance(1)", p.advance(1), 1);
        check.due("throughputEstimate()", p.throughputEstimate(), 9000);
    }

    private void sumsAreExact() {
        AdaptivePlayer p = Check.playerOf(1, 100, 1);
        for (int i = 1; i <= 11; i++) {
            p.addPeriod(60000, 0);
        }
        p.addPeriod(60000, 100);
        for (int i = 1; i <= 11; i++) {
            check.due("advance(60000) no. " + i, p.advance(60000), 0);
        }
        check.due("advance(1) in the twelfth period", p.advance(1), 1);
        check.due("time()", p.time(), 660001);
    }

    private void numbersOfSegmentsAndLevels() {
        AdaptivePlayer p = Check.playerOf(30, 100);
        for (int level = 0; level < 5; level++) {
            check.due("addLevel no. " + level, p.addLevel(10 + level), level);
        }
        check.due("addLevel no. 5", p.addLevel(15), AdaptivePlayer.FULL);
        for (int level = 0; level < 5; level++) {
            check.due("segmentSize(" + level + ", 29)", p.segmentSize(level, 29), 1000 + 100 * level);
        }
        check.due("segmentSize(5, 29)", p.segmentSize(5, 29), AdaptivePlayer.NO_SUCH_INDEX);
        check.due("segmentSize(0, 30)", p.segmentSize(0, 30), AdaptivePlayer.NO_SUCH_INDEX);
        check.due("segmentSize(-1, 0)", p.segmentSize(-1, 0), AdaptivePlayer.NO_SUCH_INDEX);
        check.due("segmentSize(0, -1)", p.segmentSize(0, -1), AdaptivePlayer.NO_SUCH_INDEX);
        check.command(p, "seek 29", 1);
        check.due("position()", p.position(), 2900);
    }

    private void variationAtFirst() {
        AdaptivePlayer p = Check.playerOf(30, 100, 1);
        for (int segment = 0; segment < 30; segment++) {
            check.due("segmentSize(0, " + segment + ")", p.segmentSize(0, segment), 100);
            check.due("setVariation(" + segment + ", 0)", p.setVariation(segment, 0), 100);
        }
    }

    private void sizes() {
        int[] percents = {0, 1, 99, 100, 101, 300};
        int[] small = {0, 1, 99, 100, 101, 300};
        int[] large = {0, 450000, 44550000, 45000000, 45450000, 135000000};
        for (int i = 0; i < percents.length; i++) {
            AdaptivePlayer p = Check.playerOf(1, 100, 1);
            p.setVariation(0, percents[i]);
            check.due("the smallest at " + percents[i] + " percent", p.segmentSize(0, 0), small[i]);
            p = Check.playerOf(1, 5000, 1, 9000);
            p.setVariation(0, percents[i]);
            check.due("the largest at " + percents[i] + " percent", p.segmentSize(1, 0), large[i]);
        }
    }

    /** A segment as large as the rate of its millisecond is complete in it; one that is larger is not. */
    private void twelvePeriods() {
        int[] rates = {100, 30000 / 4, 200, 9000, 300, 400, 500, 8900, 600, 700, 800, 1100};
        for (int larger = 0; larger < 12; larger++) {
            AdaptivePlayer p = Check.playerOf(12, 100, 100);
            for (int i = 0; i < 12; i++) {
                check.due("addPeriod no. " + (i + 1), p.addPeriod(1, rates[i]), i + 1);
                p.setVariation(i, rates[i] / 100 + (i == larger ? 1 : 0));
            }
            check.due("addPeriod no. 13", p.addPeriod(1, 1), AdaptivePlayer.FULL);
            for (int i = 0; i <= larger; i++) {
                check.due("advance(1) at time " + i, p.advance(1), i == larger ? 0 : 1);
            }
        }
    }

    private void shortestAndLongestPeriod() {
        AdaptivePlayer p = Check.playerOf(2, 100, 90);
        check.due("addPeriod(60000, 0)", p.addPeriod(60000, 0), 1);
        check.due("addPeriod(1, 9000)", p.addPeriod(1, 9000), 2);
        check.due("addPeriod(1, 0)", p.addPeriod(1, 0), 3);
        check.due("advance(60000), without a rate", p.advance(60000), 0);
        check.due("advance(1) at the rate of 9000", p.advance(1), 1);
        check.due("advance(60000), without a rate again", p.advance(60000), 0);
        check.due("downloadingSegment()", p.downloadingSegment(), 1);
    }

    private void lastRateStays() {
        AdaptivePlayer p = Check.playerOf(1, 100, 10);
        p.addPeriod(1, 0);
        p.addPeriod(1, 500);
        check.due("advance(3)", p.advance(3), 1);
        for (int i = 0; i < 400; i++) {
            p.advance(60000);
        }
        check.command(p, "seek 0", 1);
        check.due("advance(1) after 24 million ms", p.advance(1), 0);
        check.due("advance(1)", p.advance(1), 1);
        check.due("throughputEstimate()", p.throughputEstimate(), 500);
    }

    private void rateWithoutPeriods() {
        AdaptivePlayer p = Check.playerOf(1, 1000, 1);
        check.due("advance(1) for 1000 bits", p.advance(1), 1);
        p = Check.playerOf(1, 1001, 1);
        check.due("advance(1) for 1001 bits", p.advance(1), 0);
        check.due("advance(1)", p.advance(1), 1);
        p = Check.playerOf(1, 1000, 1);
        for (int i = 0; i < 100; i++) {
            p.advance(60000);
        }
        check.command(p, "seek 0", 1);
        check.due("advance(1) after 6 million ms", p.advance(1), 1);
    }

    private void rateOfZero() {
        AdaptivePlayer p = Check.playerOf(1, 100, 1);
        p.setVariation(0, 1);
        check.due("addPeriod(60000, 0)", p.addPeriod(60000, 0), 1);
        check.due("advance(60000) for a single bit", p.advance(60000), 0);
        check.due("advance(60000), as the last rate stays", p.advance(60000), 0);
        check.shows("still without it", p, 120000, 0, 0, AdaptivePlayer.STARTING, 0, 0, AdaptivePlayer.NONE);
        check.due("addPeriod(60001, 1) is none", p.addPeriod(60001, 1), AdaptivePlayer.BAD_VALUE);
        check.due("addPeriod(60000, 1)", p.addPeriod(60000, 1), 2);
        check.due("advance(1) at a rate of 1", p.advance(1), 1);
        check.due("throughputEstimate()", p.throughputEstimate(), 0);
    }
}
