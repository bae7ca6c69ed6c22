/** Promises 1 to 7: a new object and its settings. */
public final class SetupTest {
    private static final Check check = new Check();

    public static void main(String[] args) {
        promise1NewObject();
        promise1DefaultNumbers();
        promise2SetVideo();
        promise2NewSession();
        promise3AddLevel();
        promise3NewSession();
        promise4SetVariation();
        promise4RunningDownload();
        promise5AddPeriod();
        promise5RatesOverTime();
        promise5NoNewSession();
        promise6SetBuffer();
        promise6MaximumAndThreshold();
        promise7SetPolicyNumbers();
        check.end();
    }

    private static void promise1NewObject() {
        AdaptivePlayer p = new AdaptivePlayer();
        check.atStart("a new object", p);
        check.due("segmentLevel(9)", p.segmentLevel(9), AdaptivePlayer.NONE);
        check.due("segmentLevel(10)", p.segmentLevel(10), AdaptivePlayer.NO_SUCH_INDEX);
        check.due("segmentSize(0, 0)", p.segmentSize(0, 0), AdaptivePlayer.NO_SUCH_INDEX);
        check.due("setBuffer(20000, 2000)", p.setBuffer(20000, 2000), 0);
        check.due("setPolicyNumbers(80, 4000, 8000)", p.setPolicyNumbers(80, 4000, 8000), 0);
        check.command(p, "policy fixed", 0);
        check.command(p, "cap 4", 0);
        check.command(p, "play", 0);
        for (int segment = 0; segment < 10; segment++) {
            check.due("setVariation(" + segment + ", 100)", p.setVariation(segment, 100), 100);
        }
        check.due("addPeriod(1, 1)", p.addPeriod(1, 1), 1);
        check.due("addLevel(1)", p.addLevel(1), 0);
        check.due("segmentSize(0, 9)", p.segmentSize(0, 9), 2000);
    }

    private static void promise1DefaultNumbers() {
        AdaptivePlayer p = new AdaptivePlayer();
        p.addLevel(1000);
        check.due("advance(1999) at rate 1000", p.advance(1999), 0);
        check.due("advance(1) at rate 1000", p.advance(1), 1);
        check.due("state() at the threshold of 2000", p.state(), AdaptivePlayer.PLAYING);
        p.restart();
        check.command(p, "pause", 1);
        check.due("10 segments fill the buffer", p.advance(60000), 10);
        check.due("bufferLevel()", p.bufferLevel(), 20000);
        check.due("state() when paused", p.state(), AdaptivePlayer.STARTING);
    }

    private static void promise2SetVideo() {
        AdaptivePlayer p = new AdaptivePlayer();
        int[][] wrong = {{0, 100}, {31, 100}, {-1, 100}, {1, 99}, {1, 5001}, {1, -100}, {1, 0},
            {Integer.MIN_VALUE, 100}, {Integer.MAX_VALUE, 100}, {1, Integer.MIN_VALUE}, {1, Integer.MAX_VALUE}};
        for (int[] w : wrong) {
            check.due("setVideo(" + w[0] + ", " + w[1] + ")", p.setVideo(w[0], w[1]), AdaptivePlayer.BAD_VALUE);
        }
        check.due("segmentLevel(9) after errors", p.segmentLevel(9), AdaptivePlayer.NONE);
        check.due("setVideo(1, 100)", p.setVideo(1, 100), 100);
        check.due("segmentLevel(0)", p.segmentLevel(0), AdaptivePlayer.NONE);
        check.due("segmentLevel(1)", p.segmentLevel(1), AdaptivePlayer.NO_SUCH_INDEX);
        check.due("setVideo(30, 5000)", p.setVideo(30, 5000), 150000);
        check.due("segmentLevel(29)", p.segmentLevel(29), AdaptivePlayer.NONE);
        check.due("segmentLevel(30)", p.segmentLevel(30), AdaptivePlayer.NO_SUCH_INDEX);
    }

    private static void promise2NewSession() {
        AdaptivePlayer p = new AdaptivePlayer();
        p.setVideo(3, 100);
        p.addLevel(10);
        p.addPeriod(1000, 10);
        p.setVariation(2, 7);
        p.setVariation(1, 0);
        check.command(p, "cap 3", 1);
        check.command(p, "policy rate", 1);
        p.advance(150);
        check.command(p, "pause", 1);
        p.typeKey('p');
        int[] before = Check.shown(p);
        check.due("setVideo(0, 0)", p.setVideo(0, 0), AdaptivePlayer.BAD_VALUE);
        check.shows("after an error", p, before);
        check.due("setVideo(3, 200)", p.setVideo(3, 200), 600);
        check.atStart("after setVideo", p);
        check.due("segmentLevel(0)", p.segmentLevel(0), AdaptivePlayer.NONE);
        check.due("advance(1)", p.advance(1), AdaptivePlayer.NO_LEVELS);
        check.due("the command line stays", p.typeKey('l'), 2);
        p.typeKey('a');
        p.typeKey('y');
        check.due("runCommand() of play", p.runCommand(), 0);
        check.command(p, "cap 3", 0);
        check.command(p, "policy rate", 0);
        check.due("the periods stay", p.addPeriod(1, 0), 2);
        check.due("variation of 1", p.setVariation(1, 5), 100);
        check.due("variation of 2", p.setVariation(2, 5), 100);
        check.due("addLevel(1), as the levels are gone", p.addLevel(1), 0);
        check.due("segmentSize(0, 0)", p.segmentSize(0, 0), 200);
    }

    private static void promise3AddLevel() {
        AdaptivePlayer p = new AdaptivePlayer();
        int[] wrong = {0, -1, 9001, Integer.MIN_VALUE, Integer.MAX_VALUE};
        for (int w : wrong) {
            check.due("addLevel(" + w + ")", p.addLevel(w), AdaptivePlayer.BAD_VALUE);
        }
        check.due("addLevel(1)", p.addLevel(1), 0);
        check.due("addLevel(1) again", p.addLevel(1), AdaptivePlayer.BAD_VALUE);
        check.due("addLevel(2)", p.addLevel(2), 1);
        check.due("addLevel(50)", p.addLevel(50), 2);
        check.due("addLevel(49)", p.addLevel(49), AdaptivePlayer.BAD_VALUE);
        check.due("addLevel(50) again", p.addLevel(50), AdaptivePlayer.BAD_VALUE);
        check.due("addLevel(51)", p.addLevel(51), 3);
        check.due("addLevel(8999)", p.addLevel(8999), 4);
        check.due("addLevel(9000), a sixth", p.addLevel(9000), AdaptivePlayer.FULL);
        check.due("addLevel(8999), a sixth that is not above", p.addLevel(8999), AdaptivePlayer.BAD_VALUE);
        check.due("addLevel(9001), a sixth", p.addLevel(9001), AdaptivePlayer.BAD_VALUE);
        check.due("segmentSize(4, 0)", p.segmentSize(4, 0), 8999 * 2000);
        check.due("segmentSize(5, 0)", p.segmentSize(5, 0), AdaptivePlayer.NO_SUCH_INDEX);
        p.setVideo(1, 100);
        check.due("addLevel(9000) of a new video", p.addLevel(9000), 0);
        check.due("addLevel(9000) again", p.addLevel(9000), AdaptivePlayer.BAD_VALUE);
    }

    private static void promise3NewSession() {
        AdaptivePlayer p = new AdaptivePlayer();
        p.setVideo(3, 100);
        p.addLevel(500);
        check.command(p, "cap 1", 1);
        p.setVariation(2, 50);
        p.advance(75);
        check.command(p, "pause", 1);
        p.typeKey('x');
        int[] before = Check.shown(p);
        check.due("addLevel(500)", p.addLevel(500), AdaptivePlayer.BAD_VALUE);
        check.shows("after an error", p, before);
        check.due("segmentLevel(0)", p.segmentLevel(0), 0);
        check.due("addLevel(600)", p.addLevel(600), 1);
        check.atStart("after addLevel", p);
        check.due("segmentLevel(0)", p.segmentLevel(0), AdaptivePlayer.NONE);
        check.due("the variation stays", p.setVariation(2, 50), 50);
        check.due("the command line stays", p.typeKey('x'), 2);
        p.runCommand();
        check.command(p, "cap 1", 0);
        p.addLevel(700);
        p.addLevel(800);
        p.addLevel(900);
        p.advance(10);
        check.due("addLevel(901)", p.addLevel(901), AdaptivePlayer.FULL);
        check.due("time() after FULL", p.time(), 10);
    }

    private static void promise4SetVariation() {
        AdaptivePlayer p = new AdaptivePlayer();
        int[] noSegment = {-1, 10, 29, 30, Integer.MIN_VALUE, Integer.MAX_VALUE};
        for (int segment : noSegment) {
            check.due("setVariation(" + segment + ", 0)", p.setVariation(segment, 0), AdaptivePlayer.NO_SUCH_INDEX);
            check.due("setVariation(" + segment + ", 301)", p.setVariation(segment, 301), AdaptivePlayer.NO_SUCH_INDEX);
        }
        int[] noPercent = {-1, 301, Integer.MIN_VALUE, Integer.MAX_VALUE};
        for (int percent : noPercent) {
            check.due("setVariation(9, " + percent + ")", p.setVariation(9, percent), AdaptivePlayer.BAD_VALUE);
        }
        check.due("setVariation(9, 0)", p.setVariation(9, 0), 100);
        check.due("setVariation(9, 300)", p.setVariation(9, 300), 0);
        check.due("setVariation(9, 300)", p.setVariation(9, 300), 300);
        check.due("setVariation(8, 1)", p.setVariation(8, 1), 100);
        p.addLevel(3);
        check.due("segmentSize(0, 9)", p.segmentSize(0, 9), 18000);
        check.due("segmentSize(0, 8)", p.segmentSize(0, 8), 60);
    }

    private static void promise4RunningDownload() {
        AdaptivePlayer p = new AdaptivePlayer();
        p.setVideo(3, 100);
        p.addLevel(1000);
        p.advance(50);
        check.command(p, "pause", 1);
        check.due("setVariation(0, 10)", p.setVariation(0, 10), 100);
        check.due("isPaused()", p.isPaused(), 1);
        check.due("time()", p.time(), 50);
        check.due("advance(49), the size of the running download stays", p.advance(49), 0);
        check.due("advance(1)", p.advance(1), 1);
        p.setVariation(1, 10);
        check.due("advance(9)", p.advance(9), 0);
        check.due("advance(1)", p.advance(1), 1);
        check.due("throughputEstimate()", p.throughputEstimate(), 1000);
    }

    private static void promise5AddPeriod() {
        AdaptivePlayer p = new AdaptivePlayer();
        int[][] wrong = {{0, 0}, {-1, 0}, {60001, 0}, {1, -1}, {1, 9001}, {0, 9001},
            {Integer.MIN_VALUE, 0}, {Integer.MAX_VALUE, 0}, {1, Integer.MIN_VALUE}, {1, Integer.MAX_VALUE}};
        for (int[] w : wrong) {
            check.due("addPeriod(" + w[0] + ", " + w[1] + ")", p.addPeriod(w[0], w[1]), AdaptivePlayer.BAD_VALUE);
        }
        for (int i = 1; i <= 12; i++) {
            int duration = i % 2 == 0 ? 1 : 60000;
            int rate = i % 3 == 0 ? 9000 : 0;
            check.due("addPeriod no. " + i, p.addPeriod(duration, rate), i);
        }
        check.due("addPeriod no. 13", p.addPeriod(1, 1), AdaptivePlayer.FULL);
        check.due("a bad no. 13", p.addPeriod(0, 1), AdaptivePlayer.BAD_VALUE);
        check.due("a bad no. 13", p.addPeriod(1, 9001), AdaptivePlayer.BAD_VALUE);
    }

    /** Segments of 1000 bits that come one after another show the rate of each millisecond. */
    private static void promise5RatesOverTime() {
        AdaptivePlayer p = new AdaptivePlayer();
        p.setVideo(30, 100);
        p.addLevel(10);
        p.addPeriod(1, 1000);
        p.addPeriod(2, 500);
        p.addPeriod(3, 0);
        p.addPeriod(4, 250);
        int[] completed = {1, 0, 1, 0, 0, 0, 0, 0, 0, 1, 0, 0, 0, 1, 0, 0, 0, 1};
        for (int i = 0; i < completed.length; i++) {
            check.due("advance(1) at time " + i, p.advance(1), completed[i]);
        }
    }

    private static void promise5NoNewSession() {
        AdaptivePlayer p = new AdaptivePlayer();
        p.setVideo(2, 100);
        p.addLevel(1000);
        check.due("advance(10) at rate 1000", p.advance(10), 0);
        check.command(p, "pause", 1);
        check.due("addPeriod(5, 0), which is over", p.addPeriod(5, 0), 1);
        check.due("time()", p.time(), 10);
        check.due("isPaused()", p.isPaused(), 1);
        check.due("advance(1000) at rate 0", p.advance(1000), 0);
        check.due("addPeriod(1005, 9000), whose last millisecond was time 1009", p.addPeriod(1005, 9000), 2);
        check.due("advance(10), the last rate stays", p.advance(10), 1);
        check.due("throughputEstimate()", p.throughputEstimate(), 100000 / 1020);
    }

    private static void promise6SetBuffer() {
        AdaptivePlayer p = new AdaptivePlayer();
        int[][] wrong = {{99, 1}, {60001, 1}, {100, 0}, {100, 101}, {100, -1}, {-100, -100}, {0, 0},
            {Integer.MAX_VALUE, 1}, {Integer.MIN_VALUE, 1}, {100, Integer.MIN_VALUE}, {100, Integer.MAX_VALUE}};
        for (int[] w : wrong) {
            check.due("setBuffer(" + w[0] + ", " + w[1] + ")", p.setBuffer(w[0], w[1]), AdaptivePlayer.BAD_VALUE);
        }
        check.due("setBuffer(20000, 2000), as it was", p.setBuffer(20000, 2000), 0);
        check.due("setBuffer(20000, 2001)", p.setBuffer(20000, 2001), 1);
        check.due("setBuffer(20001, 2001)", p.setBuffer(20001, 2001), 1);
        check.due("setBuffer(20001, 2001)", p.setBuffer(20001, 2001), 0);
        check.due("setBuffer(60000, 60000)", p.setBuffer(60000, 60000), 1);
        check.due("setBuffer(100, 100)", p.setBuffer(100, 100), 1);
        check.due("setBuffer(100, 1)", p.setBuffer(100, 1), 1);
        check.due("setBuffer(100, 1)", p.setBuffer(100, 1), 0);
    }

    private static void promise6MaximumAndThreshold() {
        AdaptivePlayer p = new AdaptivePlayer();
        p.setVideo(5, 100);
        p.addLevel(10);
        p.setBuffer(199, 101);
        check.due("advance(50), no room for a second segment", p.advance(50), 1);
        check.due("state() below the threshold", p.state(), AdaptivePlayer.STARTING);
        check.due("setBuffer(200, 200)", p.setBuffer(200, 200), 1);
        check.due("time(), as no session starts", p.time(), 50);
        check.due("advance(1), just room for a second", p.advance(1), 1);
        check.due("state() at the threshold", p.state(), AdaptivePlayer.PLAYING);
        check.due("bufferLevel()", p.bufferLevel(), 200);
        p.setBuffer(100, 1);
        check.due("advance(100), no room while the buffer is above 0", p.advance(199), 0);
        check.due("bufferLevel()", p.bufferLevel(), 1);
        check.due("advance(1)", p.advance(1), 0);
        check.due("state()", p.state(), AdaptivePlayer.STALLED);
        check.due("advance(1)", p.advance(1), 1);
        check.due("state()", p.state(), AdaptivePlayer.PLAYING);
    }

    private static void promise7SetPolicyNumbers() {
        AdaptivePlayer p = new AdaptivePlayer();
        int[][] wrong = {{0, 0, 1}, {201, 0, 1}, {-1, 0, 1}, {1, -1, 1}, {1, 60001, 1}, {1, 0, 0}, {1, 0, -1},
            {1, 0, 60001}, {Integer.MIN_VALUE, 0, 1}, {Integer.MAX_VALUE, 0, 1}, {1, Integer.MIN_VALUE, 1},
            {1, Integer.MAX_VALUE, 1}, {1, 0, Integer.MIN_VALUE}, {1, 0, Integer.MAX_VALUE}};
        for (int[] w : wrong) {
            check.due("setPolicyNumbers(" + w[0] + ", " + w[1] + ", " + w[2] + ")",
                p.setPolicyNumbers(w[0], w[1], w[2]), AdaptivePlayer.BAD_VALUE);
        }
        check.due("setPolicyNumbers(80, 4000, 8000), as it was", p.setPolicyNumbers(80, 4000, 8000), 0);
        check.due("another safety", p.setPolicyNumbers(81, 4000, 8000), 1);
        check.due("another reservoir", p.setPolicyNumbers(81, 4001, 8000), 1);
        check.due("another cushion", p.setPolicyNumbers(81, 4001, 8001), 1);
        check.due("the same", p.setPolicyNumbers(81, 4001, 8001), 0);
        check.due("the lowest", p.setPolicyNumbers(1, 0, 1), 1);
        check.due("the highest", p.setPolicyNumbers(200, 60000, 60000), 1);
        check.due("the highest again", p.setPolicyNumbers(200, 60000, 60000), 0);
    }
}
