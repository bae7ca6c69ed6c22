/** Promises 8 and 9: the command line and its commands. */
public final class CommandTest {
    private static final Check check = new Check();

    public static void main(String[] args) {
        promise8TypeKey();
        promise9NotACommand();
        promise9Policy();
        promise9Cap();
        promise9PauseAndPlay();
        promise9Seek();
        promise9SeekInASession();
        promise9SeekWhenFinished();
        promise9SeekWithoutLevels();
        promise9CommandLineOverSessions();
        check.end();
    }

    private static void promise8TypeKey() {
        AdaptivePlayer p = new AdaptivePlayer();
        int[] wrong = {31, 127, 0, -1, 10, 255, 65536 + 'a', Integer.MIN_VALUE, Integer.MAX_VALUE};
        for (int w : wrong) {
            check.due("typeKey(" + w + ")", p.typeKey(w), AdaptivePlayer.BAD_VALUE);
        }
        for (int i = 1; i <= 16; i++) {
            check.due("typeKey no. " + i, p.typeKey(i % 2 == 0 ? 32 : 126), i);
        }
        check.due("typeKey no. 17", p.typeKey(97), AdaptivePlayer.FULL);
        check.due("a bad no. 17", p.typeKey(127), AdaptivePlayer.BAD_VALUE);
        check.due("runCommand()", p.runCommand(), AdaptivePlayer.SYNTAX);
        check.due("typeKey after it", p.typeKey(97), 1);
    }

    private static void promise9NotACommand() {
        String[] texts = {"", " ", "  ", "policy", "policy ", "policy x", "policy Rate", "Policy rate", "policy  rate",
            " policy rate", "policy rate ", "policy rates", "policyrate", "policy 1", "cap", "cap ", "cap x", "cap -1",
            "cap 1 ", "cap  1", "cap 1x", "cap x1", "cap 100", "cap 000", "cap 1 2", "Cap 1", "cap1", "cap /", "cap :",
            "cap 4/", "cap 4:", "seek", "seek ", "seek x", "seek 100", "seek 000", "seek 1 ", "seek  1", "seek -1",
            "seek +1", "SEEK 1", "pause ", " pause", "pause 1", "Pause", "paus", "pauses", "play ", " play", "play 1",
            "PLAY", "pla", "plays", "stop", "fixed", "rate", "1", "policy cap 1", "0123456789abcdef"};
        for (String text : texts) {
            AdaptivePlayer p = new AdaptivePlayer();
            check.command(p, text, AdaptivePlayer.SYNTAX);
            check.atStart("after \"" + text + "\"", p);
            check.command(p, "policy fixed", 0);
            check.command(p, "cap 4", 0);
        }
    }

    private static void promise9Policy() {
        AdaptivePlayer p = new AdaptivePlayer();
        String[] names = {"rate", "buffer", "hybrid", "fixed"};
        for (String name : names) {
            check.command(p, "policy " + name, 1);
            check.command(p, "policy " + name, 0);
        }
        check.due("restart()", p.restart(), 0);
        check.command(p, "policy fixed", 0);
    }

    private static void promise9Cap() {
        AdaptivePlayer p = new AdaptivePlayer();
        for (int cap = 0; cap <= 4; cap++) {
            check.command(p, "cap " + cap, 1);
            check.command(p, "cap " + cap, 0);
            check.command(p, "cap 0" + cap, 0);
        }
        String[] above = {"5", "9", "05", "10", "40", "99"};
        for (String n : above) {
            check.command(p, "cap " + n, AdaptivePlayer.NO_SUCH_INDEX);
            check.due("the command line is empty", p.typeKey('x'), 1);
            p.runCommand();
        }
        check.command(p, "cap 4", 0);
    }

    private static void promise9PauseAndPlay() {
        AdaptivePlayer p = new AdaptivePlayer();
        p.setVideo(2, 100);
        p.addLevel(500);
        p.setBuffer(200, 100);
        check.command(p, "play", 0);
        check.command(p, "pause", 1);
        check.command(p, "pause", 0);
        check.due("isPaused()", p.isPaused(), 1);
        check.due("downloads go on", p.advance(120), 2);
        check.shows("paused", p, 120, 0, 200, AdaptivePlayer.STARTING, 1, AdaptivePlayer.NONE, 1000, 0, 0, 0, 0, 1000);
        check.command(p, "play", 1);
        check.command(p, "play", 0);
        p.advance(1);
        check.shows("playing", p, 121, 0, 200, AdaptivePlayer.PLAYING, 0);
        p.advance(1);
        check.command(p, "pause", 1);
        p.advance(10);
        check.shows("paused while PLAYING", p, 132, 1, 199, AdaptivePlayer.PLAYING, 1);
        check.command(p, "play", 1);
        p.advance(199);
        check.shows("to the end", p, 331, 200, 0, AdaptivePlayer.FINISHED, 0);
        check.command(p, "pause", 1);
        check.due("isPaused() when FINISHED", p.isPaused(), 1);
    }

    private static void promise9Seek() {
        AdaptivePlayer p = new AdaptivePlayer();
        p.setVideo(12, 300);
        p.addLevel(1);
        check.command(p, "seek 0", 1);
        check.command(p, "seek 0", 1);
        check.command(p, "seek 11", 1);
        check.due("position()", p.position(), 3300);
        check.command(p, "seek 03", 1);
        check.due("position()", p.position(), 900);
        check.command(p, "seek 12", AdaptivePlayer.NO_SUCH_INDEX);
        check.command(p, "seek 99", AdaptivePlayer.NO_SUCH_INDEX);
        check.due("position()", p.position(), 900);
        p.setVideo(30, 100);
        check.command(p, "seek 29", 1);
        check.command(p, "seek 30", AdaptivePlayer.NO_SUCH_INDEX);
        check.due("position()", p.position(), 2900);
    }

    private static void promise9SeekInASession() {
        AdaptivePlayer p = new AdaptivePlayer();
        p.setVideo(4, 100);
        p.addLevel(500);
        p.addLevel(1000);
        p.setBuffer(1000, 100);
        p.advance(150);
        check.shows("before the seek", p, 150, 50, 50, AdaptivePlayer.PLAYING, 0, 1, 1000, 0, 0, 0, 100, 1000);
        check.command(p, "cap 0", 1);
        check.command(p, "seek 3", 1);
        check.shows("after the seek", p, 150, 300, 0, AdaptivePlayer.STARTING, 0,
            AdaptivePlayer.NONE, AdaptivePlayer.NONE, 0, 0, 0, 100, 1000);
        check.due("segmentLevel(0)", p.segmentLevel(0), 1);
        check.due("segmentLevel(1)", p.segmentLevel(1), AdaptivePlayer.NONE);
        check.due("advance(49), the old download is lost", p.advance(49), 0);
        check.due("downloadingSegment()", p.downloadingSegment(), 3);
        check.due("advance(1)", p.advance(1), 1);
        check.shows("after the last segment", p, 200, 300, 100, AdaptivePlayer.PLAYING, 0,
            AdaptivePlayer.NONE, 1000, 1, 0, 0, 150, 1500);
        check.command(p, "pause", 1);
        check.command(p, "seek 0", 1);
        check.shows("a paused player stays paused", p, 200, 0, 0, AdaptivePlayer.STARTING, 1);
        p.advance(60);
        check.due("segmentLevel(0), completed again", p.segmentLevel(0), 0);
        check.due("bitrateSum(), each time counts", p.bitrateSum(), 2000);
        check.due("startupTime(), paused", p.startupTime(), 150);
    }

    private static void promise9SeekWhenFinished() {
        AdaptivePlayer p = new AdaptivePlayer();
        p.setVideo(2, 100);
        p.addLevel(10);
        p.setBuffer(1000, 100);
        p.advance(300);
        check.due("state()", p.state(), AdaptivePlayer.FINISHED);
        check.command(p, "seek 1", 1);
        check.shows("after the seek", p, 300, 100, 0, AdaptivePlayer.STARTING);
        check.due("advance(101)", p.advance(101), 1);
        check.shows("at the end again", p, 401, 200, 0, AdaptivePlayer.FINISHED, 0,
            AdaptivePlayer.NONE, 1000, 0, 0, 0, 2, 30);
    }

    private static void promise9SeekWithoutLevels() {
        AdaptivePlayer p = new AdaptivePlayer();
        check.command(p, "seek 9", 1);
        check.due("position()", p.position(), 18000);
        check.due("advance(1)", p.advance(1), AdaptivePlayer.NO_LEVELS);
        check.due("restart()", p.restart(), 0);
        check.due("position()", p.position(), 0);
    }

    private static void promise9CommandLineOverSessions() {
        AdaptivePlayer p = new AdaptivePlayer();
        p.addLevel(10);
        p.typeKey('p');
        p.typeKey('a');
        p.restart();
        p.typeKey('u');
        p.typeKey('s');
        check.due("typeKey('e')", p.typeKey('e'), 5);
        check.due("runCommand()", p.runCommand(), 1);
        check.due("restart(), which ends a pause", p.restart(), 0);
        check.due("isPaused()", p.isPaused(), 0);
    }
}
