/**
 * A simulator of a video player with adaptive bitrate streaming.
 * Times are in milliseconds, rates in bits per millisecond, sizes in bits.
 */
public final class AdaptivePlayer {
    public static final int BAD_VALUE = -1;
    public static final int NO_SUCH_INDEX = -2;
    public static final int FULL = -3;
    public static final int NO_LEVELS = -4;
    public static final int SYNTAX = -5;
    public static final int NONE = -6;
    public static final int STARTING = 0, PLAYING = 1, STALLED = 2, FINISHED = 3;
    public static final int FIXED = 0, RATE = 1, BUFFER = 2, HYBRID = 3;

    private static final int MOST_SEGMENTS = 30;
    private static final int SHORTEST_SEGMENT = 100;
    private static final int LONGEST_SEGMENT = 5000;
    private static final int MOST_LEVELS = 5;
    private static final int HIGHEST_CAP = MOST_LEVELS - 1;
    private static final int HIGHEST_BITRATE = 9000;
    private static final int HIGHEST_VARIATION = 300;
    private static final int MOST_PERIODS = 12;
    private static final int LONGEST_PERIOD = 60000;
    private static final int HIGHEST_RATE = 9000;
    private static final int RATE_WITHOUT_PERIODS = 1000;
    private static final int SMALLEST_MAXIMUM = 100;
    private static final int LARGEST_BUFFER = 60000;
    private static final int HIGHEST_SAFETY = 200;
    private static final int FIRST_CHARACTER = 32;
    private static final int LAST_CHARACTER = 126;
    private static final int MOST_CHARACTERS = 16;
    private static final int LONGEST_ADVANCE = 60000;
    private static final int LONGEST_SIMULATION = 120000;
    private static final int THROUGHPUTS_KEPT = 3;

    private final Video video;
    private final Connection connection;
    private final Settings settings;
    private final Session session;
    /** Kept for all what-if runs, so that no call has to make a session of its own. */
    private final Session whatIf;
    private final StringBuilder commandLine;
    private int policy;
    private int cap;

    public AdaptivePlayer() {
        video = new Video();
        connection = new Connection();
        settings = new Settings();
        session = new Session(video, connection, settings);
        whatIf = new Session(video, connection, settings);
        commandLine = new StringBuilder();
        policy = FIXED;
        cap = HIGHEST_CAP;
    }

    public int setVideo(int segments, int duration) {
        if (!isWithin(segments, 1, MOST_SEGMENTS) || !isWithin(duration, SHORTEST_SEGMENT, LONGEST_SEGMENT)) {
            return BAD_VALUE;
        }
        video.replace(segments, duration);
        session.begin();
        return segments * duration;
    }

    public int addLevel(int bitrate) {
        if (!isWithin(bitrate, 1, HIGHEST_BITRATE) || bitrate <= video.highestBitrate()) {
            return BAD_VALUE;
        }
        if (video.levelCount >= MOST_LEVELS) {
            return FULL;
        }
        video.appendLevel(bitrate);
        session.begin();
        return video.levelCount - 1;
    }

    public int setVariation(int segment, int percent) {
        if (!video.hasSegment(segment)) {
            return NO_SUCH_INDEX;
        }
        if (!isWithin(percent, 0, HIGHEST_VARIATION)) {
            return BAD_VALUE;
        }
        int previous = video.variationOf(segment);
        video.changeVariation(segment, percent);
        return previous;
    }

    public int addPeriod(int duration, int rate) {
        if (!isWithin(duration, 1, LONGEST_PERIOD) || !isWithin(rate, 0, HIGHEST_RATE)) {
            return BAD_VALUE;
        }
        if (connection.periodCount >= MOST_PERIODS) {
            return FULL;
        }
        connection.appendPeriod(duration, rate);
        return connection.periodCount;
    }

    public int setBuffer(int maximum, int threshold) {
        if (!isWithin(maximum, SMALLEST_MAXIMUM, LARGEST_BUFFER) || !isWithin(threshold, 1, maximum)) {
            return BAD_VALUE;
        }
        return oneIf(settings.changeBuffer(maximum, threshold));
    }

    public int setPolicyNumbers(int safety, int reservoir, int cushion) {
        if (!isWithin(safety, 1, HIGHEST_SAFETY) || !isWithin(reservoir, 0, LARGEST_BUFFER)
                || !isWithin(cushion, 1, LARGEST_BUFFER)) {
            return BAD_VALUE;
        }
        return oneIf(settings.changePolicyNumbers(safety, reservoir, cushion));
    }

    public int typeKey(int character) {
        if (!isWithin(character, FIRST_CHARACTER, LAST_CHARACTER)) {
            return BAD_VALUE;
        }
        if (commandLine.length() >= MOST_CHARACTERS) {
            return FULL;
        }
        commandLine.append((char) character);
        return commandLine.length();
    }

    public int runCommand() {
        String text = commandLine.toString();
        commandLine.setLength(0);
        int space = text.indexOf(' ');
        if (space < 0) {
            return runWord(text);
        }
        return runWordWithArgument(text.substring(0, space), text.substring(space + 1));
    }

    public int restart() {
        int end = session.time;
        session.begin();
        return end;
    }

    public int advance(int milliseconds) {
        if (!isWithin(milliseconds, 1, LONGEST_ADVANCE)) {
            return BAD_VALUE;
        }
        if (video.levelCount == 0) {
            return NO_LEVELS;
        }
        int completed = 0;
        for (int passed = 0; passed < milliseconds; passed++) {
            if (session.passMillisecond(policy, cap)) {
                completed++;
            }
        }
        return completed;
    }

    public int time() {
        return session.time;
    }

    public int position() {
        return session.position;
    }

    public int bufferLevel() {
        return session.buffer;
    }

    public int state() {
        return session.state;
    }

    public int isPaused() {
        return oneIf(session.paused);
    }

    public int downloadingSegment() {
        return session.download.running ? session.nextSegment : NONE;
    }

    public int segmentLevel(int segment) {
        if (!video.hasSegment(segment)) {
            return NO_SUCH_INDEX;
        }
        return session.completedLevelOf(segment);
    }

    public int throughputEstimate() {
        return session.throughputs.estimate();
    }

    public int switchCount() {
        return session.switchCount;
    }

    public int stallCount() {
        return session.stallCount;
    }

    public int stallTime() {
        return session.stallTime;
    }

    public int startupTime() {
        return session.startupTime;
    }

    public int bitrateSum() {
        return session.bitrateSum;
    }

    public int segmentSize(int level, int segment) {
        if (!video.hasLevel(level) || !video.hasSegment(segment)) {
            return NO_SUCH_INDEX;
        }
        return video.sizeOf(level, segment);
    }

    public int simulatedStallTime(int policy) {
        int error = simulationError(policy);
        if (error != 0) {
            return error;
        }
        whatIf.playWhole(policy, cap);
        return whatIf.stallTime;
    }

    public int simulatedBitrateSum(int policy) {
        int error = simulationError(policy);
        if (error != 0) {
            return error;
        }
        whatIf.playWhole(policy, cap);
        return whatIf.bitrateSum;
    }

    public int bestSmoothLevel() {
        if (video.levelCount == 0) {
            return NO_LEVELS;
        }
        for (int level = video.levelCount - 1; level >= 0; level--) {
            whatIf.playWhole(FIXED, level);
            if (whatIf.state == FINISHED && whatIf.stallCount == 0) {
                return level;
            }
        }
        return NONE;
    }

    private int simulationError(int simulatedPolicy) {
        if (!isWithin(simulatedPolicy, FIXED, HYBRID)) {
            return NO_SUCH_INDEX;
        }
        return video.levelCount == 0 ? NO_LEVELS : 0;
    }

    private int runWord(String word) {
        if (word.equals("pause")) {
            return changePause(true);
        }
        if (word.equals("play")) {
            return changePause(false);
        }
        return SYNTAX;
    }

    private int runWordWithArgument(String word, String argument) {
        if (word.equals("policy")) {
            return changePolicy(policyNamed(argument));
        }
        if (word.equals("cap")) {
            return changeCap(numberIn(argument));
        }
        if (word.equals("seek")) {
            return seek(numberIn(argument));
        }
        return SYNTAX;
    }

    private int changePause(boolean paused) {
        boolean changed = session.paused != paused;
        session.paused = paused;
        return oneIf(changed);
    }

    private int changePolicy(int wanted) {
        if (wanted == NONE) {
            return SYNTAX;
        }
        boolean changed = policy != wanted;
        policy = wanted;
        return oneIf(changed);
    }

    private int changeCap(int wanted) {
        if (wanted == NONE) {
            return SYNTAX;
        }
        if (wanted > HIGHEST_CAP) {
            return NO_SUCH_INDEX;
        }
        boolean changed = cap != wanted;
        cap = wanted;
        return oneIf(changed);
    }

    private int seek(int segment) {
        if (segment == NONE) {
            return SYNTAX;
        }
        if (!video.hasSegment(segment)) {
            return NO_SUCH_INDEX;
        }
        session.moveTo(segment);
        return 1;
    }

    /** The policy of that name, or NONE. */
    private static int policyNamed(String name) {
        if (name.equals("fixed")) {
            return FIXED;
        }
        if (name.equals("rate")) {
            return RATE;
        }
        if (name.equals("buffer")) {
            return BUFFER;
        }
        return name.equals("hybrid") ? HYBRID : NONE;
    }

    /** The number that the text is, or NONE if it is not one or two digits. */
    private static int numberIn(String text) {
        if (!isWithin(text.length(), 1, 2)) {
            return NONE;
        }
        int number = 0;
        for (int i = 0; i < text.length(); i++) {
            char digit = text.charAt(i);
            if (digit < '0' || digit > '9') {
                return NONE;
            }
            number = number * 10 + (digit - '0');
        }
        return number;
    }

    private static boolean isWithin(int value, int lowest, int highest) {
        return value >= lowest && value <= highest;
    }

    private static int oneIf(boolean condition) {
        return condition ? 1 : 0;
    }

    private static final class Video {
        private final int[] bitrates = new int[MOST_LEVELS];
        private final int[] variations = new int[MOST_SEGMENTS];
        int segmentCount;
        int duration;
        int levelCount;

        Video() {
            replace(10, 2000);
        }

        void replace(int newSegmentCount, int newDuration) {
            segmentCount = newSegmentCount;
            duration = newDuration;
            levelCount = 0;
            for (int segment = 0; segment < variations.length; segment++) {
                variations[segment] = 100;
            }
        }

        void appendLevel(int bitrate) {
            if (levelCount < bitrates.length) {
                bitrates[levelCount] = bitrate;
                levelCount++;
            }
        }

        boolean hasSegment(int segment) {
            return segment >= 0 && segment < segmentCount && segment < variations.length;
        }

        boolean hasLevel(int level) {
            return level >= 0 && level < levelCount && level < bitrates.length;
        }

        int bitrateOf(int level) {
            return hasLevel(level) ? bitrates[level] : 0;
        }

        /** 0 without levels, so that any bitrate is above it. */
        int highestBitrate() {
            return bitrateOf(levelCount - 1);
        }

        /** The highest level up to top whose bitrate keeps within the limit; level 0 needs not to. */
        int highestLevelWithin(int limit, int top) {
            for (int level = Math.min(top, bitrates.length - 1); level > 0; level--) {
                if (bitrates[level] <= limit) {
                    return level;
                }
            }
            return 0;
        }

        int variationOf(int segment) {
            return hasSegment(segment) ? variations[segment] : 0;
        }

        void changeVariation(int segment, int percent) {
            if (hasSegment(segment)) {
                variations[segment] = percent;
            }
        }

        int sizeOf(int level, int segment) {
            // the product goes up to 13.5 thousand million, which no int holds
            return (int) ((long) bitrateOf(level) * duration * variationOf(segment) / 100);
        }
    }

    private static final class Connection {
        private final int[] ends = new int[MOST_PERIODS];
        private final int[] rates = new int[MOST_PERIODS];
        int periodCount;

        void appendPeriod(int duration, int rate) {
            if (periodCount < ends.length && periodCount < rates.length) {
                int start = periodCount > 0 ? ends[periodCount - 1] : 0;
                ends[periodCount] = start + duration;
                rates[periodCount] = rate;
                periodCount++;
            }
        }

        int rateAt(int time) {
            int rate = RATE_WITHOUT_PERIODS;
            int count = Math.min(periodCount, Math.min(ends.length, rates.length));
            for (int period = 0; period < count; period++) {
                rate = rates[period];
                if (time < ends[period]) {
                    return rate;
                }
            }
            return rate;
        }
    }

    private static final class Settings {
        int maximumBuffer = 20000;
        int threshold = 2000;
        int safety = 80;
        int reservoir = 4000;
        int cushion = 8000;

        boolean changeBuffer(int newMaximum, int newThreshold) {
            boolean changed = maximumBuffer != newMaximum || threshold != newThreshold;
            maximumBuffer = newMaximum;
            threshold = newThreshold;
            return changed;
        }

        boolean changePolicyNumbers(int newSafety, int newReservoir, int newCushion) {
            boolean changed = safety != newSafety || reservoir != newReservoir || cushion != newCushion;
            safety = newSafety;
            reservoir = newReservoir;
            cushion = newCushion;
            return changed;
        }
    }

    /** The throughputs that count for the estimate, the newest one first. */
    private static final class Throughputs {
        private final int[] latest = new int[THROUGHPUTS_KEPT];
        private int count;

        void forget() {
            count = 0;
        }

        void add(int throughput) {
            for (int i = latest.length - 1; i > 0; i--) {
                latest[i] = latest[i - 1];
            }
            latest[0] = throughput;
            if (count < latest.length) {
                count++;
            }
        }

        int estimate() {
            if (count <= 0) {
                return NONE;
            }
            int sum = 0;
            for (int i = 0; i < count && i < latest.length; i++) {
                sum += latest[i];
            }
            return sum / count;
        }
    }

    private static final class Download {
        boolean running;
        int level;
        /** Held here, because a later change of the variation must not reach a running download. */
        private int size;
        private int received;
        private int timeSpent;

        void start(int newLevel, int newSize) {
            running = true;
            level = newLevel;
            size = newSize;
            received = 0;
            timeSpent = 0;
        }

        void stop() {
            running = false;
        }

        void receive(int bits) {
            received += bits;
            timeSpent++;
        }

        boolean isComplete() {
            return received >= size;
        }

        int throughput() {
            return timeSpent > 0 ? size / timeSpent : 0;
        }
    }

    private static final class Session {
        private final Video video;
        private final Connection connection;
        private final Settings settings;
        private final int[] completedLevels = new int[MOST_SEGMENTS];
        final Throughputs throughputs = new Throughputs();
        final Download download = new Download();
        boolean paused;
        int time;
        int position;
        int buffer;
        int state;
        int nextSegment;
        int switchCount;
        int stallCount;
        int stallTime;
        int startupTime;
        int bitrateSum;
        private int latestLevel;

        Session(Video video, Connection connection, Settings settings) {
            this.video = video;
            this.connection = connection;
            this.settings = settings;
            begin();
        }

        void begin() {
            moveTo(0);
            paused = false;
            time = 0;
            switchCount = 0;
            stallCount = 0;
            stallTime = 0;
            startupTime = 0;
            bitrateSum = 0;
            latestLevel = NONE;
            for (int segment = 0; segment < completedLevels.length; segment++) {
                completedLevels[segment] = NONE;
            }
        }

        void moveTo(int segment) {
            download.stop();
            throughputs.forget();
            buffer = 0;
            nextSegment = segment;
            position = segment * video.duration;
            state = STARTING;
        }

        void playWhole(int policy, int cap) {
            begin();
            for (int passed = 0; passed < LONGEST_SIMULATION && state != FINISHED; passed++) {
                passMillisecond(policy, cap);
            }
        }

        /** Tells whether a segment became complete. */
        boolean passMillisecond(int policy, int cap) {
            if (canStartDownload()) {
                int level = chooseLevel(policy, cap);
                download.start(level, video.sizeOf(level, nextSegment));
            }
            boolean completed = false;
            if (download.running) {
                download.receive(connection.rateAt(time));
                completed = download.isComplete();
            }
            if (completed) {
                completeSegment();
            }
            if (!paused) {
                play();
            }
            time++;
            return completed;
        }

        int completedLevelOf(int segment) {
            return segment >= 0 && segment < completedLevels.length ? completedLevels[segment] : NONE;
        }

        private boolean hasNextSegment() {
            return nextSegment < video.segmentCount;
        }

        private boolean canStartDownload() {
            return !download.running && hasNextSegment() && buffer + video.duration <= settings.maximumBuffer;
        }

        private void completeSegment() {
            int level = download.level;
            download.stop();
            throughputs.add(download.throughput());
            buffer += video.duration;
            bitrateSum += video.bitrateOf(level);
            if (latestLevel != NONE && latestLevel != level) {
                switchCount++;
            }
            latestLevel = level;
            if (nextSegment >= 0 && nextSegment < completedLevels.length) {
                completedLevels[nextSegment] = level;
            }
            nextSegment++;
        }

        private void play() {
            switch (state) {
                case STARTING:
                    startupTime++;
                    playIfReady();
                    break;
                case STALLED:
                    stallTime++;
                    playIfReady();
                    break;
                case PLAYING:
                    playMillisecond();
                    break;
                default:
                    break;
            }
        }

        private void playIfReady() {
            if (buffer >= settings.threshold || (!hasNextSegment() && buffer > 0)) {
                state = PLAYING;
            }
        }

        private void playMillisecond() {
            buffer--;
            position++;
            if (buffer > 0) {
                return;
            }
            if (hasNextSegment()) {
                state = STALLED;
                stallCount++;
            } else {
                state = FINISHED;
            }
        }

        private int chooseLevel(int policy, int cap) {
            int top = Math.min(cap, video.levelCount - 1);
            switch (policy) {
                case RATE:
                    return levelByRate(top);
                case BUFFER:
                    return levelByBuffer(top);
                case HYBRID:
                    return levelByBoth(top);
                default:
                    return top;
            }
        }

        private int levelByRate(int top) {
            int estimate = throughputs.estimate();
            if (estimate == NONE) {
                return 0;
            }
            return video.highestLevelWithin(estimate * settings.safety / 100, top);
        }

        private int levelByBuffer(int top) {
            int aboveReservoir = buffer - settings.reservoir;
            if (aboveReservoir <= 0) {
                return 0;
            }
            if (aboveReservoir >= settings.cushion) {
                return top;
            }
            // the cushion is greater than aboveReservoir here, so it is not 0
            return aboveReservoir * top / settings.cushion;
        }

        private int levelByBoth(int top) {
            int level = Math.min(levelByRate(top), levelByBuffer(top));
            return latestLevel == NONE ? level : Math.min(level, latestLevel + 1);
        }
    }
}
