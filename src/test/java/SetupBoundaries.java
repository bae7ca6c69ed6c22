/** Promises 1 to 7. */
final class SetupBoundaries {
    private final Check check;

    SetupBoundaries(Check check) {
        this.check = check;
    }

    void all(Sentences s) {
        newObject(s);
        video(s);
        connection(s);
        settings(s);
    }

    private void newObject(Sentences s) {
        s.section("Promise 1");
        String sentence = "A video of 10 segments of 2000 milliseconds without levels, no periods; maximum buffer 20000,"
            + " threshold 2000; safety 80, reservoir 4000, cushion 8000; the policy is FIXED, the cap is 4; a session is"
            + " at its start and not paused.";
        s.test(sentence, this::newVideo);
        s.test(sentence, this::newConnection);
        s.test(sentence, this::newMaximum);
        s.test(sentence, this::newThreshold);
        s.test(sentence, this::newSafety);
        s.test(sentence, this::newReservoirAndCushion);
        s.test(sentence, this::newPolicyAndCap);
        s.test(sentence, this::newSession);
    }

    private void video(Sentences s) {
        s.section("Promise 2");
        s.test("Replaces the video by one without levels, with variation 100 for each segment, and starts a new"
            + " session.", this::videoIsReplaced);
        s.test("segments: the number of segments, 1 to 30", this::numberOfSegments);
        s.test("duration: the duration of a segment, 100 to 5000", this::durationOfASegment);
        s.test("Returns the duration of the whole video; BAD_VALUE.", this::durationOfTheVideo);
        s.section("Promise 3");
        s.test("Adds a quality level above the others and starts a new session.", this::levelIsAdded);
        s.test("bitrate: the bitrate, 1 to 9000, greater than the bitrate of the highest level so far",
            this::bitrateRange);
        s.test("bitrate: the bitrate, 1 to 9000, greater than the bitrate of the highest level so far",
            this::bitrateAboveTheOthers);
        s.test("Returns the number of the level; BAD_VALUE; FULL if there are 5 levels.", this::fiveLevels);
        s.test("Returns the number of the level; BAD_VALUE; FULL if there are 5 levels.", this::badValueBeforeFullLevels);
        s.section("Promise 4");
        s.test("Sets the variation of a segment.", this::variationOfOneSegment);
        s.test("A download that is running keeps its size.", this::runningDownloadKeepsItsSize);
        s.test("segment: the number of a segment", this::segmentOfAVariation);
        s.test("percent: 0 to 300", this::percentRange);
        s.test("Returns the previous variation; NO_SUCH_INDEX; BAD_VALUE.", this::previousVariation);
    }

    private void connection(Sentences s) {
        s.section("Promise 5");
        s.test("Adds a period behind the others.", this::periodBehindTheOthers);
        s.test("This does not start a new session, so it can change the rate at the present time.",
            this::rateOfThePresentTime);
        s.test("duration: 1 to 60000", this::durationOfAPeriod);
        s.test("rate: 0 to 9000", this::rateRange);
        s.test("Returns the number of periods; BAD_VALUE; FULL if there are 12 periods.", this::numberOfPeriods);
    }

    private void settings(Sentences s) {
        s.section("Promise 6");
        s.test("Sets the sizes of the buffer.", this::sizesOfTheBuffer);
        s.test("maximum: the maximum buffer, 100 to 60000", this::maximumRange);
        s.test("threshold: the buffer with which playing starts, 1 to maximum", this::thresholdRange);
        s.test("Returns 1 if at least one of them changed, otherwise 0; BAD_VALUE.", this::bufferChanged);
        s.section("Promise 7");
        s.test("Sets the numbers that the policies use.", this::numbersOfThePolicies);
        s.test("safety: 1 to 200", () -> policyNumberRange(0, 1, 200));
        s.test("reservoir: 0 to 60000", () -> policyNumberRange(1, 0, 60000));
        s.test("cushion: 1 to 60000", () -> policyNumberRange(2, 1, 60000));
        s.test("Returns 1 if at least one of them changed, otherwise 0; BAD_VALUE.", this::policyNumbersChanged);
    }

    private void newVideo() {
        AdaptivePlayer p = new AdaptivePlayer();
        check.due("segmentSize(0, 0)", p.segmentSize(0, 0), AdaptivePlayer.NO_SUCH_INDEX);
        check.due("segmentLevel(9)", p.segmentLevel(9), AdaptivePlayer.NONE);
        check.due("segmentLevel(10)", p.segmentLevel(10), AdaptivePlayer.NO_SUCH_INDEX);
        check.due("advance(1)", p.advance(1), AdaptivePlayer.NO_LEVELS);
        check.due("addLevel(1)", p.addLevel(1), 0);
        check.due("segmentSize(0, 9)", p.segmentSize(0, 9), 2000);
        check.due("segmentSize(0, 10)", p.segmentSize(0, 10), AdaptivePlayer.NO_SUCH_INDEX);
        check.command(p, "seek 9", 1);
        check.due("position()", p.position(), 18000);
        check.command(p, "seek 10", AdaptivePlayer.NO_SUCH_INDEX);
    }

    private void newConnection() {
        AdaptivePlayer p = new AdaptivePlayer();
        p.addLevel(1);
        check.due("advance(2) for 2000 bits", p.advance(2), 1);
        check.due("addPeriod(1, 1)", p.addPeriod(1, 1), 1);
    }

    /** Ten segments of 2000 fill the buffer, an eleventh finds no room; at 2001 the tenth finds none. */
    private void newMaximum() {
        AdaptivePlayer p = Check.playerOf(11, 2000, 1);
        check.command(p, "pause", 1);
        check.due("advance(60000)", p.advance(60000), 10);
        check.due("bufferLevel()", p.bufferLevel(), 20000);
        p = Check.playerOf(11, 2001, 1);
        check.command(p, "pause", 1);
        check.due("advance(60000) of 2001", p.advance(60000), 9);
        check.due("setBuffer(20000, 2000)", p.setBuffer(20000, 2000), 0);
    }

    private void newThreshold() {
        AdaptivePlayer p = Check.playerOf(3, 2000, 1);
        p.advance(2);
        check.shows("one of 2000", p, 2, 0, 2000, AdaptivePlayer.PLAYING);
        p = Check.playerOf(3, 1999, 1);
        p.advance(2);
        check.shows("one of 1999", p, 2, 0, 1999, AdaptivePlayer.STARTING);
        p.advance(2);
        check.shows("two of 1999", p, 4, 0, 3998, AdaptivePlayer.PLAYING);
    }

    /** An estimate of 1000 allows a bitrate of 800. */
    private void newSafety() {
        for (int bitrate = 800; bitrate <= 801; bitrate++) {
            AdaptivePlayer p = Check.playerOf(2, 100, 10, bitrate);
            check.command(p, "policy rate", 1);
            p.advance(1000);
            check.levels("with " + bitrate, p, 0, bitrate == 800 ? 1 : 0);
        }
    }

    /** The buffers at the choices are 0, 2000, 4000 and so on up to 18000. */
    private void newReservoirAndCushion() {
        AdaptivePlayer p = new AdaptivePlayer();
        for (int bitrate = 1; bitrate <= 5; bitrate++) {
            p.addLevel(bitrate);
        }
        check.command(p, "policy buffer", 1);
        check.command(p, "pause", 1);
        p.advance(60000);
        check.levels("by the buffer", p, 0, 0, 0, 1, 2, 3, 4, 4, 4, 4);
        check.due("setPolicyNumbers(80, 4000, 8000)", p.setPolicyNumbers(80, 4000, 8000), 0);
    }

    private void newPolicyAndCap() {
        AdaptivePlayer p = new AdaptivePlayer();
        for (int bitrate = 1; bitrate <= 5; bitrate++) {
            p.addLevel(bitrate);
        }
        p.advance(60000);
        check.levels("FIXED at the cap", p, 4, 4, 4, 4, 4, 4, 4, 4, 4, 4);
        p = new AdaptivePlayer();
        check.command(p, "policy fixed", 0);
        check.command(p, "cap 4", 0);
    }

    private void newSession() {
        AdaptivePlayer p = new AdaptivePlayer();
        check.atStart("a new object", p);
        for (int segment = 0; segment < 10; segment++) {
            check.due("segmentLevel(" + segment + ")", p.segmentLevel(segment), AdaptivePlayer.NONE);
        }
        check.command(p, "play", 0);
        check.due("restart()", p.restart(), 0);
        check.due("typeKey(32), on an empty command line", p.typeKey(32), 1);
    }

    private void videoIsReplaced() {
        AdaptivePlayer p = Check.playerOf(30, 100, 10, 20);
        for (int segment = 0; segment < 30; segment++) {
            p.setVariation(segment, segment);
        }
        p.setBuffer(500, 100);
        p.advance(333);
        check.command(p, "seek 29", 1);
        p.advance(10);
        check.command(p, "pause", 1);
        check.due("setVideo(30, 100), even the same", p.setVideo(30, 100), 3000);
        check.atStart("after setVideo", p);
        check.due("segmentSize(0, 0)", p.segmentSize(0, 0), AdaptivePlayer.NO_SUCH_INDEX);
        check.due("advance(1)", p.advance(1), AdaptivePlayer.NO_LEVELS);
        for (int segment = 0; segment < 30; segment++) {
            check.due("segmentLevel(" + segment + ")", p.segmentLevel(segment), AdaptivePlayer.NONE);
            check.due("variation of " + segment, p.setVariation(segment, 0), 100);
        }
        check.due("addLevel(1)", p.addLevel(1), 0);
        check.due("advance(1)", p.advance(1), 1);
        check.due("segmentLevel(0)", p.segmentLevel(0), 0);
    }

    private void numberOfSegments() {
        for (int segments : Check.around(1, 30)) {
            AdaptivePlayer p = new AdaptivePlayer();
            boolean fine = Check.isIn(segments, 1, 30);
            check.due("setVideo(" + segments + ", 100)", p.setVideo(segments, 100),
                fine ? segments * 100 : AdaptivePlayer.BAD_VALUE);
            int last = (fine ? segments : 10) - 1;
            check.due("segmentLevel of the last", p.segmentLevel(last), AdaptivePlayer.NONE);
            check.due("segmentLevel behind the last", p.segmentLevel(last + 1), AdaptivePlayer.NO_SUCH_INDEX);
        }
    }

    private void durationOfASegment() {
        for (int duration : Check.around(100, 5000)) {
            AdaptivePlayer p = new AdaptivePlayer();
            boolean fine = Check.isIn(duration, 100, 5000);
            check.due("setVideo(2, " + duration + ")", p.setVideo(2, duration),
                fine ? 2 * duration : AdaptivePlayer.BAD_VALUE);
            p.addLevel(1);
            check.due("segmentSize(0, 1)", p.segmentSize(0, 1), fine ? duration : 2000);
        }
    }

    private void durationOfTheVideo() {
        AdaptivePlayer p = new AdaptivePlayer();
        check.due("the shortest", p.setVideo(1, 100), 100);
        check.due("the longest", p.setVideo(30, 5000), 150000);
        check.due("setVideo(30, 100)", p.setVideo(30, 100), 3000);
        check.due("setVideo(1, 5000)", p.setVideo(1, 5000), 5000);
        check.due("setVideo(0, 99)", p.setVideo(0, 99), AdaptivePlayer.BAD_VALUE);
        check.due("setVideo(31, 5001)", p.setVideo(31, 5001), AdaptivePlayer.BAD_VALUE);
        check.due("setVideo(-1, -100)", p.setVideo(-1, -100), AdaptivePlayer.BAD_VALUE);
    }

    private void levelIsAdded() {
        AdaptivePlayer p = Check.playerOf(3, 100, 10);
        p.setVariation(2, 50);
        p.setBuffer(300, 100);
        p.advance(150);
        check.command(p, "seek 2", 1);
        check.command(p, "pause", 1);
        p.advance(1);
        check.due("addLevel(20)", p.addLevel(20), 1);
        check.atStart("after addLevel", p);
        check.levels("after addLevel", p, AdaptivePlayer.NONE, AdaptivePlayer.NONE, AdaptivePlayer.NONE);
        check.due("segmentSize(0, 2)", p.segmentSize(0, 2), 500);
        check.due("segmentSize(1, 2)", p.segmentSize(1, 2), 1000);
        p.advance(1);
        check.due("downloadingSegment(), from the first on", p.downloadingSegment(), 0);
    }

    private void bitrateRange() {
        for (int bitrate : Check.around(1, 9000)) {
            AdaptivePlayer p = Check.playerOf(1, 100);
            boolean fine = Check.isIn(bitrate, 1, 9000);
            check.due("addLevel(" + bitrate + ")", p.addLevel(bitrate), fine ? 0 : AdaptivePlayer.BAD_VALUE);
            check.due("segmentSize(0, 0)", p.segmentSize(0, 0), fine ? bitrate * 100 : AdaptivePlayer.NO_SUCH_INDEX);
        }
    }

    private void bitrateAboveTheOthers() {
        AdaptivePlayer p = Check.playerOf(1, 100, 5, 8);
        check.due("addLevel(5), as the lowest", p.addLevel(5), AdaptivePlayer.BAD_VALUE);
        check.due("addLevel(6), between", p.addLevel(6), AdaptivePlayer.BAD_VALUE);
        check.due("addLevel(7), one below the highest", p.addLevel(7), AdaptivePlayer.BAD_VALUE);
        check.due("addLevel(8), as the highest", p.addLevel(8), AdaptivePlayer.BAD_VALUE);
        check.due("addLevel(9), one above the highest", p.addLevel(9), 2);
        check.due("addLevel(9000)", p.addLevel(9000), 3);
        check.due("addLevel(9000), nothing is above", p.addLevel(9000), AdaptivePlayer.BAD_VALUE);
        check.due("addLevel(9001)", p.addLevel(9001), AdaptivePlayer.BAD_VALUE);
        p.setVideo(1, 100);
        check.due("addLevel(1), of a new video", p.addLevel(1), 0);
    }

    private void fiveLevels() {
        AdaptivePlayer p = Check.playerOf(1, 100);
        for (int level = 0; level < 5; level++) {
            check.due("addLevel no. " + level, p.addLevel(level + 1), level);
        }
        check.due("addLevel(6)", p.addLevel(6), AdaptivePlayer.FULL);
        check.due("addLevel(9000)", p.addLevel(9000), AdaptivePlayer.FULL);
        check.due("segmentSize(5, 0)", p.segmentSize(5, 0), AdaptivePlayer.NO_SUCH_INDEX);
        check.due("segmentSize(4, 0)", p.segmentSize(4, 0), 500);
        p.setVideo(1, 100);
        check.due("addLevel(6), of a new video", p.addLevel(6), 0);
    }

    private void badValueBeforeFullLevels() {
        AdaptivePlayer p = Check.playerOf(1, 100, 1, 2, 3, 4, 5);
        int[] bad = {0, -1, 9001, 1, 4, 5, Integer.MIN_VALUE, Integer.MAX_VALUE};
        for (int bitrate : bad) {
            check.due("addLevel(" + bitrate + ") with five levels", p.addLevel(bitrate), AdaptivePlayer.BAD_VALUE);
        }
    }

    private void variationOfOneSegment() {
        AdaptivePlayer p = Check.playerOf(30, 100, 1);
        p.setVariation(0, 300);
        p.setVariation(29, 0);
        check.due("segmentSize(0, 0)", p.segmentSize(0, 0), 300);
        for (int segment = 1; segment < 29; segment++) {
            check.due("segmentSize(0, " + segment + ")", p.segmentSize(0, segment), 100);
        }
        check.due("segmentSize(0, 29)", p.segmentSize(0, 29), 0);
        p.addLevel(2);
        check.due("segmentSize(1, 0), as the variation is one for all levels", p.segmentSize(1, 0), 600);
    }

    private void runningDownloadKeepsItsSize() {
        int[] percents = {0, 1, 300};
        for (int percent : percents) {
            AdaptivePlayer p = Check.playerOf(1, 100, 1000);
            p.advance(1);
            p.setVariation(0, percent);
            check.due("segmentSize(0, 0)", p.segmentSize(0, 0), 1000 * percent);
            check.due("advance(98)", p.advance(98), 0);
            check.due("advance(1)", p.advance(1), 1);
            check.due("throughputEstimate()", p.throughputEstimate(), 1000);
        }
        AdaptivePlayer p = Check.playerOf(1, 100, 1000);
        p.setVariation(0, 50);
        check.due("advance(49), as no download was running", p.advance(49), 0);
        check.due("advance(1)", p.advance(1), 1);
        check.command(p, "seek 0", 1);
        p.advance(1);
        p.setVariation(0, 1);
        check.due("advance(1), the size is still that of 50 percent", p.advance(1), 0);
        check.command(p, "seek 0", 1);
        check.due("advance(1), as another download has the new size", p.advance(1), 1);
    }

    private void segmentOfAVariation() {
        int[] counts = {1, 10, 30};
        for (int count : counts) {
            AdaptivePlayer p = Check.playerOf(count, 100, 1);
            for (int segment : Check.around(0, count - 1)) {
                check.due("setVariation(" + segment + ", 100) of " + count, p.setVariation(segment, 100),
                    Check.isIn(segment, 0, count - 1) ? 100 : AdaptivePlayer.NO_SUCH_INDEX);
            }
        }
    }

    private void percentRange() {
        for (int percent : Check.around(0, 300)) {
            AdaptivePlayer p = Check.playerOf(1, 100, 1);
            boolean fine = Check.isIn(percent, 0, 300);
            check.due("setVariation(0, " + percent + ")", p.setVariation(0, percent),
                fine ? 100 : AdaptivePlayer.BAD_VALUE);
            check.due("segmentSize(0, 0)", p.segmentSize(0, 0), fine ? percent : 100);
        }
    }

    private void previousVariation() {
        AdaptivePlayer p = Check.playerOf(2, 100);
        check.due("setVariation(1, 0)", p.setVariation(1, 0), 100);
        check.due("setVariation(1, 300)", p.setVariation(1, 300), 0);
        check.due("setVariation(1, 301)", p.setVariation(1, 301), AdaptivePlayer.BAD_VALUE);
        check.due("setVariation(2, 301), both wrong", p.setVariation(2, 301), AdaptivePlayer.NO_SUCH_INDEX);
        check.due("setVariation(-1, -1), both wrong", p.setVariation(-1, -1), AdaptivePlayer.NO_SUCH_INDEX);
        check.due("setVariation(1, 300)", p.setVariation(1, 300), 300);
        p.addLevel(1);
        p.restart();
        check.due("setVariation(1, 7), over a new session", p.setVariation(1, 7), 300);
    }

    /** Segments of 500 bits: the second period begins where the first ends, at 2. */
    private void periodBehindTheOthers() {
        AdaptivePlayer p = Check.playerOf(5, 100, 5);
        p.addPeriod(2, 0);
        p.addPeriod(1, 500);
        p.addPeriod(1, 0);
        p.addPeriod(1, 500);
        int[] completed = {0, 0, 1, 0, 1, 1};
        for (int i = 0; i < completed.length; i++) {
            check.due("advance(1) at " + i, p.advance(1), completed[i]);
        }
    }

    private void rateOfThePresentTime() {
        AdaptivePlayer p = Check.playerOf(2, 100, 1000);
        p.setBuffer(200, 1);
        check.due("advance(100) at 1000", p.advance(100), 1);
        p.advance(50);
        int[] before = Check.shown(p);
        check.due("addPeriod(150, 0), which is over", p.addPeriod(150, 0), 1);
        check.shows("after addPeriod", p, before);
        check.due("segmentLevel(0)", p.segmentLevel(0), 0);
        check.due("advance(1000) at 0, not at 1000", p.advance(1000), 0);
        check.due("addPeriod(1000, 9000), which is over", p.addPeriod(1000, 9000), 2);
        check.due("advance(5), 45000 of the missing 50000 bits", p.advance(5), 0);
        check.due("addPeriod(5, 0), which is over", p.addPeriod(5, 0), 3);
        check.due("advance(1000) at 0", p.advance(1000), 0);
        check.due("addPeriod(60000, 5000), which is present", p.addPeriod(60000, 5000), 4);
        check.due("advance(1)", p.advance(1), 1);
    }

    private void durationOfAPeriod() {
        for (int duration : Check.around(1, 60000)) {
            AdaptivePlayer p = Check.playerOf(1, 100, 10);
            boolean fine = Check.isIn(duration, 1, 60000);
            check.due("addPeriod(" + duration + ", 0)", p.addPeriod(duration, 0), fine ? 1 : AdaptivePlayer.BAD_VALUE);
            check.due("addPeriod(1, 1000)", p.addPeriod(1, 1000), fine ? 2 : 1);
            check.due("advance(1)", p.advance(1), fine ? 0 : 1);
            if (fine) {
                p.restart();
                check.due("advance(" + duration + ")", p.advance(duration), 0);
                check.due("advance(1)", p.advance(1), 1);
            }
        }
    }

    private void rateRange() {
        for (int rate : Check.around(0, 9000)) {
            AdaptivePlayer p = Check.playerOf(1, 100, 90);
            boolean fine = Check.isIn(rate, 0, 9000);
            check.due("addPeriod(1, " + rate + ")", p.addPeriod(1, rate), fine ? 1 : AdaptivePlayer.BAD_VALUE);
            check.due("advance(1) for 9000 bits", p.advance(1), rate == 9000 ? 1 : 0);
            check.due("advance(8), at 1000 if there is no period", p.advance(8), fine ? 0 : 1);
        }
    }

    private void numberOfPeriods() {
        AdaptivePlayer p = new AdaptivePlayer();
        for (int i = 1; i <= 12; i++) {
            check.due("addPeriod no. " + i, p.addPeriod(1, 0), i);
            check.due("addPeriod(0, 0)", p.addPeriod(0, 0), AdaptivePlayer.BAD_VALUE);
        }
        check.due("addPeriod no. 13", p.addPeriod(1, 0), AdaptivePlayer.FULL);
        int[][] bad = {{0, 0}, {60001, 0}, {1, -1}, {1, 9001}};
        for (int[] b : bad) {
            check.due("addPeriod(" + b[0] + ", " + b[1] + ") as no. 13", p.addPeriod(b[0], b[1]),
                AdaptivePlayer.BAD_VALUE);
        }
        p.setVideo(1, 100);
        check.due("addPeriod no. 13, as a new video has the same connection", p.addPeriod(1, 0), AdaptivePlayer.FULL);
    }

    private void sizesOfTheBuffer() {
        AdaptivePlayer p = Check.playerOf(5, 100, 10);
        p.setBuffer(199, 101);
        check.due("advance(50), no room for a second segment", p.advance(50), 1);
        check.due("state() below the threshold", p.state(), AdaptivePlayer.STARTING);
        check.due("setBuffer(200, 200)", p.setBuffer(200, 200), 1);
        check.shows("no new session", p, 50, 0, 100);
        check.due("advance(1), just room for a second one", p.advance(1), 1);
        check.shows("at the threshold", p, 51, 0, 200, AdaptivePlayer.PLAYING);
        check.due("setBuffer(100, 1), below the buffer", p.setBuffer(100, 1), 1);
        check.due("bufferLevel() stays", p.bufferLevel(), 200);
        check.due("advance(200), no room before it is empty", p.advance(200), 0);
        check.due("advance(1)", p.advance(1), 1);
    }

    private void maximumRange() {
        for (int maximum : Check.around(100, 60000)) {
            AdaptivePlayer p = Check.playerOf(1, 100, 1);
            boolean fine = Check.isIn(maximum, 100, 60000);
            check.due("setBuffer(" + maximum + ", 1)", p.setBuffer(maximum, 1), fine ? 1 : AdaptivePlayer.BAD_VALUE);
            check.due("setBuffer(20000, 2000), as it was", p.setBuffer(20000, 2000), fine ? 1 : 0);
        }
        // 12 segments of 5000 fill the largest buffer
        AdaptivePlayer p = Check.playerOf(30, 5000, 1);
        p.setBuffer(60000, 60000);
        check.command(p, "pause", 1);
        check.due("advance(60000)", p.advance(60000), 12);
        check.due("bufferLevel()", p.bufferLevel(), 60000);
    }

    private void thresholdRange() {
        int[] maximums = {100, 101, 59999, 60000};
        for (int maximum : maximums) {
            for (int threshold : Check.around(1, maximum)) {
                AdaptivePlayer p = new AdaptivePlayer();
                boolean fine = Check.isIn(threshold, 1, maximum);
                check.due("setBuffer(" + maximum + ", " + threshold + ")", p.setBuffer(maximum, threshold),
                    fine ? 1 : AdaptivePlayer.BAD_VALUE);
                check.due("setBuffer(20000, 2000), as it was", p.setBuffer(20000, 2000), fine ? 1 : 0);
            }
        }
    }

    private void bufferChanged() {
        AdaptivePlayer p = new AdaptivePlayer();
        check.due("none changed", p.setBuffer(20000, 2000), 0);
        check.due("the threshold alone", p.setBuffer(20000, 2001), 1);
        check.due("the maximum alone", p.setBuffer(20001, 2001), 1);
        check.due("both", p.setBuffer(100, 1), 1);
        check.due("none", p.setBuffer(100, 1), 0);
        check.due("both wrong", p.setBuffer(99, 100), AdaptivePlayer.BAD_VALUE);
        check.due("none, after an error", p.setBuffer(100, 1), 0);
        p.setVideo(1, 100);
        check.due("none, after a new video", p.setBuffer(100, 1), 0);
    }

    /** A change counts from the next choice on: the first segment finds a reservoir of 0, the third one of 60000. */
    private void numbersOfThePolicies() {
        AdaptivePlayer p = Check.playerOf(4, 100, 1, 2);
        check.command(p, "policy buffer", 1);
        check.command(p, "pause", 1);
        p.setPolicyNumbers(1, 0, 1);
        p.advance(2);
        check.due("setPolicyNumbers(1, 60000, 1)", p.setPolicyNumbers(1, 60000, 1), 1);
        check.due("time(), as no session starts", p.time(), 2);
        p.advance(1);
        check.due("setPolicyNumbers(1, 0, 300)", p.setPolicyNumbers(1, 0, 300), 1);
        p.advance(1);
        check.levels("by the buffer", p, 0, 1, 0, 1);
    }

    private void policyNumberRange(int which, int lowest, int highest) {
        for (int value : Check.around(lowest, highest)) {
            AdaptivePlayer p = new AdaptivePlayer();
            int[] numbers = {100, 100, 100};
            numbers[which] = value;
            boolean fine = Check.isIn(value, lowest, highest);
            check.due("setPolicyNumbers(" + numbers[0] + ", " + numbers[1] + ", " + numbers[2] + ")",
                p.setPolicyNumbers(numbers[0], numbers[1], numbers[2]), fine ? 1 : AdaptivePlayer.BAD_VALUE);
            check.due("setPolicyNumbers(80, 4000, 8000), as it was", p.setPolicyNumbers(80, 4000, 8000), fine ? 1 : 0);
        }
    }

    private void policyNumbersChanged() {
        AdaptivePlayer p = new AdaptivePlayer();
        check.due("none changed", p.setPolicyNumbers(80, 4000, 8000), 0);
        check.due("the safety alone", p.setPolicyNumbers(81, 4000, 8000), 1);
        check.due("the reservoir alone", p.setPolicyNumbers(81, 4001, 8000), 1);
        check.due("the cushion alone", p.setPolicyNumbers(81, 4001, 8001), 1);
        check.due("none", p.setPolicyNumbers(81, 4001, 8001), 0);
        check.due("all wrong", p.setPolicyNumbers(0, -1, 0), AdaptivePlayer.BAD_VALUE);
        check.due("the last one wrong", p.setPolicyNumbers(1, 1, 0), AdaptivePlayer.BAD_VALUE);
        check.due("none, after errors", p.setPolicyNumbers(81, 4001, 8001), 0);
        check.due("the lowest", p.setPolicyNumbers(1, 0, 1), 1);
        check.due("the highest", p.setPolicyNumbers(200, 60000, 60000), 1);
    }
}
