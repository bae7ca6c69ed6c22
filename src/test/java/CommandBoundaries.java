import java.util.HashSet;
import java.util.Set;
import java.util.regex.Matcher;
import java.util.regex.Pattern;

/** The command line and its commands, with promises 8 and 9. */
final class CommandBoundaries {
    private static final Pattern COMMAND =
        Pattern.compile("policy (fixed|rate|buffer|hybrid)|(cap|seek) (\\d{1,2})|pause|play");
    private static final String[] COMMANDS = {
        "policy fixed", "policy rate", "policy buffer", "policy hybrid", "cap 0", "cap 4", "cap 10", "seek 0", "seek 9",
        "seek 10", "pause", "play"};

    private final Check check;

    CommandBoundaries(Check check) {
        this.check = check;
    }

    void all(Sentences s) {
        s.section("Description");
        s.test("Commands. The player has a command line.", this::commandLineIsEmptyAtFirst);
        s.test("Characters are typed one by one, and then the command runs.", this::runsOnlyWhenTold);
        String command = "A command is a word, or a word, one space and an argument: \"policy fixed\", \"policy rate\","
            + " \"policy buffer\", \"policy hybrid\"; \"cap N\" with a level N from 0 to 4; \"seek N\" with the number N of"
            + " an existing segment; \"pause\"; \"play\".";
        s.test(command, this::eachCommand);
        s.test(command, this::oneCharacterMoreLessOrOther);
        s.test(command, this::spaces);
        s.test(command, this::missingAndNeedlessArguments);
        s.test("A number N has one or two digits, and nothing follows it.", this::numbers);
        s.test("Letters are lower case.", this::upperCase);
        s.test("The start of a session changes neither the policy nor the cap nor the command line; a new session is not"
            + " paused.", this::startOfASession);
        s.test("A seek ends any download, empties the buffer, makes segment N the next segment, and sets the position to"
            + " N times the duration.", this::seekWhileDownloading);
        s.test("A seek ends any download, empties the buffer, makes segment N the next segment, and sets the position to"
            + " N times the duration.", this::seekEverywhere);
        s.test("The player becomes STARTING, also if it was FINISHED.", this::seekInEachState);
        s.test("A seek is possible in a video without levels as well.", this::seekWithoutLevels);
        s.test("The counters, the time and the levels of completed segments stay; the throughputs are forgotten.",
            this::seekKeepsTheCounters);
        s.test("A paused player stays paused.", this::seekKeepsThePause);
        s.section("Promise 8");
        s.test("Types a character at the end of the command line.", this::typedAtTheEnd);
        s.test("character: its code, 32 to 126", this::characterRange);
        s.test("Returns the number of characters in the command line; BAD_VALUE; FULL if there are 16 characters.",
            this::sixteenCharacters);
        s.section("Promise 9");
        s.test("Runs the command in the command line.", this::commandRunsOnce);
        s.test("The command line is empty afterwards, also if the command is not valid.", this::emptyAfterwards);
        String returns = "Returns 1 if the command changed the policy or the cap, paused a player that was not paused,"
            + " made a paused player play, or did a seek; otherwise 0; SYNTAX if the text is not a command;"
            + " NO_SUCH_INDEX if the level of a cap is above 4 or the segment of a seek does not exist.";
        s.test(returns, this::changesAnswerOne);
        s.test(returns, this::capAboveFour);
        s.test(returns, this::seekBehindTheEnd);
        s.test(returns, this::syntaxBeforeNoSuchIndex);
    }

    private void commandLineIsEmptyAtFirst() {
        AdaptivePlayer p = new AdaptivePlayer();
        check.due("runCommand() of nothing", p.runCommand(), AdaptivePlayer.SYNTAX);
        check.due("typeKey('p')", p.typeKey('p'), 1);
        check.due("the line of another player is its own", new AdaptivePlayer().typeKey('p'), 1);
    }

    private void runsOnlyWhenTold() {
        AdaptivePlayer p = Check.playerOf(2, 100, 10);
        String text = "pause";
        for (int i = 0; i < text.length(); i++) {
            check.due("typeKey", p.typeKey(text.charAt(i)), i + 1);
            p.advance(1);
            check.due("isPaused() before it runs", p.isPaused(), 0);
        }
        check.due("runCommand()", p.runCommand(), 1);
        check.due("isPaused()", p.isPaused(), 1);
    }

    private void eachCommand() {
        AdaptivePlayer p = Check.playerOf(30, 100, 1);
        String[] policies = {"rate", "buffer", "hybrid", "fixed"};
        for (String policy : policies) {
            check.command(p, "policy " + policy, 1);
        }
        for (int cap = 0; cap <= 4; cap++) {
            check.command(p, "cap " + cap, 1);
        }
        for (int segment = 0; segment < 30; segment++) {
            check.command(p, "seek " + segment, 1);
            check.due("position()", p.position(), segment * 100);
        }
        check.command(p, "pause", 1);
        check.command(p, "play", 1);
    }

    /** All texts that differ from a command in one place; a pattern tells which of them are commands, too. */
    private void oneCharacterMoreLessOrOther() {
        Set<String> texts = new HashSet<>();
        for (String text : COMMANDS) {
            for (int i = 0; i <= text.length(); i++) {
                addVariants(texts, text.substring(0, i), text.substring(i));
            }
        }
        for (String text : texts) {
            AdaptivePlayer p = new AdaptivePlayer();
            for (int i = 0; i < text.length(); i++) {
                p.typeKey(text.charAt(i));
            }
            check.due("runCommand() of \"" + text + "\"", p.runCommand(), dueOfANewPlayer(text));
        }
    }

    private static void addVariants(Set<String> texts, String before, String after) {
        if (!after.isEmpty()) {
            texts.add(before + after.substring(1));
        }
        for (char c = 32; c <= 126; c++) {
            texts.add(before + c + after);
            if (!after.isEmpty()) {
                texts.add(before + c + after.substring(1));
            }
        }
    }

    private static int dueOfANewPlayer(String text) {
        Matcher matcher = COMMAND.matcher(text);
        if (!matcher.matches()) {
            return AdaptivePlayer.SYNTAX;
        }
        if (matcher.group(2) == null) {
            return text.equals("policy fixed") || text.equals("play") ? 0 : 1;
        }
        int number = Integer.parseInt(matcher.group(3));
        if (matcher.group(2).equals("seek")) {
            return number < 10 ? 1 : AdaptivePlayer.NO_SUCH_INDEX;
        }
        if (number > 4) {
            return AdaptivePlayer.NO_SUCH_INDEX;
        }
        return number == 4 ? 0 : 1;
    }

    private void allAreNoCommand(String... texts) {
        for (String text : texts) {
            AdaptivePlayer p = new AdaptivePlayer();
            check.command(p, text, AdaptivePlayer.SYNTAX);
            check.atStart("after \"" + text + "\"", p);
            check.command(p, "policy fixed", 0);
            check.command(p, "cap 4", 0);
        }
    }

    private void spaces() {
        allAreNoCommand(" ", "  ", "                ", "policy  rate", " policy rate", "policy rate ", "policyrate",
            "pol icy rate", "policy ra te", "cap  1", " cap 1", "cap 1 ", "cap1", "cap 1 1", "c ap 1", "seek  1", " seek 1",
            "seek 1 ", "seek1", "seek 1 0", " pause", "pause ", "pau se", " play", "play ", "p lay");
    }

    private void missingAndNeedlessArguments() {
        allAreNoCommand("", "policy", "policy ", "cap", "cap ", "seek", "seek ", "pause 1", "pause pause", "play 0",
            "play play", "policy rate rate", "policy 0", "policy policy", "cap cap", "cap rate", "seek seek", "fixed",
            "rate", "buffer", "hybrid", "0", "4", "cap 0 seek 0");
    }

    private void numbers() {
        AdaptivePlayer p = Check.playerOf(12, 100);
        check.command(p, "cap 00", 1);
        check.command(p, "cap 0", 0);
        check.command(p, "cap 04", 1);
        check.command(p, "cap 4", 0);
        check.command(p, "seek 01", 1);
        check.due("position()", p.position(), 100);
        check.command(p, "seek 11", 1);
        check.due("position()", p.position(), 1100);
        allAreNoCommand("cap 000", "cap 004", "cap 100", "cap 0000000000", "seek 000", "seek 001", "seek 100",
            "seek 2147483648", "seek 4294967296", "cap -1", "cap +1", "cap -0", "seek -1", "seek +1", "cap 1.", "cap 1a",
            "cap a1", "cap a", "seek 1x", "seek x1", "seek 0x", "seek 1/", "seek /", "seek :", "seek 1:", "cap /", "cap :",
            "cap 1/", "cap 1:", "cap /1", "cap :1", "cap 1,0", "cap (1)", "cap one");
    }

    private void upperCase() {
        allAreNoCommand("Policy fixed", "POLICY FIXED", "policy Fixed", "policy RATE", "policy bufFer", "policy hybriD",
            "Cap 0", "CAP 0", "caP 0", "Seek 0", "SEEK 0", "seeK 0", "Pause", "PAUSE", "pausE", "Play", "PLAY", "plaY");
    }

    private void startOfASession() {
        for (int way = 0; way < 3; way++) {
            AdaptivePlayer p = Check.playerOf(2, 100, 10, 20);
            check.command(p, "policy hybrid", 1);
            check.command(p, "cap 1", 1);
            p.advance(10);
            check.command(p, "pause", 1);
            p.typeKey('p');
            p.typeKey('l');
            p.typeKey('a');
            startBy(way, p);
            check.atStart("at the start, by way " + way, p);
            check.due("typeKey('y')", p.typeKey('y'), 4);
            check.due("runCommand() of play, as it is not paused", p.runCommand(), 0);
            check.command(p, "policy hybrid", 0);
            check.command(p, "cap 1", 0);
        }
    }

    private static void startBy(int way, AdaptivePlayer p) {
        if (way == 0) {
            p.restart();
        } else if (way == 1) {
            p.addLevel(30);
        } else {
            p.setVideo(5, 200);
        }
    }

    /** 99 of 100 milliseconds of a download are lost, also if the seek is to the same segment. */
    private void seekWhileDownloading() {
        AdaptivePlayer p = Check.playerOf(3, 100, 1000);
        p.setBuffer(300, 1);
        p.advance(199);
        check.shows("before", p, 199, 99, 1, AdaptivePlayer.PLAYING, 0, 1);
        check.command(p, "seek 1", 1);
        check.shows("after", p, 199, 100, 0, AdaptivePlayer.STARTING, 0, AdaptivePlayer.NONE);
        check.due("advance(1)", p.advance(1), 0);
        check.due("downloadingSegment()", p.downloadingSegment(), 1);
        check.due("advance(98)", p.advance(98), 0);
        check.due("advance(1)", p.advance(1), 1);
        check.shows("the segment is there", p, 299, 100, 100, AdaptivePlayer.PLAYING);
        p.advance(1);
        check.due("downloadingSegment() behind it", p.downloadingSegment(), 2);
    }

    private void seekEverywhere() {
        AdaptivePlayer p = Check.playerOf(30, 5000, 1);
        int[] segments = {29, 0, 1, 28, 29};
        for (int segment : segments) {
            check.command(p, "seek " + segment, 1);
            check.shows("after the seek", p, p.time(), segment * 5000, 0, AdaptivePlayer.STARTING);
            p.advance(1);
            check.due("downloadingSegment()", p.downloadingSegment(), segment);
            check.due("advance(4)", p.advance(4), 1);
            check.due("segmentLevel(" + segment + ")", p.segmentLevel(segment), 0);
            check.due("bufferLevel()", p.bufferLevel(), 5000);
        }
        check.command(p, "seek 29", 1);
        check.command(p, "seek 29", 1);
        check.due("advance(60000), there is nothing behind the last", p.advance(60000), 1);
    }

    private void seekInEachState() {
        // plays from 10 to 110 and from 2010 to 2110
        int[] times = {5, 60, 111, 2111};
        int[] states = {AdaptivePlayer.STARTING, AdaptivePlayer.PLAYING, AdaptivePlayer.STALLED, AdaptivePlayer.FINISHED};
        for (int i = 0; i < times.length; i++) {
            AdaptivePlayer p = Check.playerOf(2, 100, 100);
            p.setBuffer(200, 100);
            p.addPeriod(10, 1000);
            p.addPeriod(1990, 0);
            p.addPeriod(1, 1000);
            p.advance(times[i]);
            check.due("state() at " + times[i], p.state(), states[i]);
            check.command(p, "seek 1", 1);
            check.shows("after the seek", p, times[i], 100, 0, AdaptivePlayer.STARTING, 0, AdaptivePlayer.NONE);
        }
    }

    private void seekWithoutLevels() {
        AdaptivePlayer p = new AdaptivePlayer();
        check.command(p, "seek 9", 1);
        check.shows("after the seek", p, 0, 18000, 0, AdaptivePlayer.STARTING);
        check.command(p, "seek 10", AdaptivePlayer.NO_SUCH_INDEX);
        check.due("position()", p.position(), 18000);
        check.due("advance(1)", p.advance(1), AdaptivePlayer.NO_LEVELS);
        check.due("addLevel(1), which starts a session", p.addLevel(1), 0);
        check.due("position()", p.position(), 0);
    }

    /** Two levels, a stall and a startup before the seek. */
    private void seekKeepsTheCounters() {
        AdaptivePlayer p = Check.playerOf(3, 100, 1000, 2000);
        p.setBuffer(300, 1);
        check.command(p, "cap 0", 1);
        p.advance(100);
        check.command(p, "cap 4", 1);
        p.advance(200);
        check.shows("before", p, 300, 100, 100, AdaptivePlayer.PLAYING, 0, AdaptivePlayer.NONE, 1000, 1, 1, 100, 100, 3000);
        check.command(p, "seek 2", 1);
        check.shows("after", p, 300, 200, 0, AdaptivePlayer.STARTING, 0, AdaptivePlayer.NONE, AdaptivePlayer.NONE,
            1, 1, 100, 100, 3000);
        check.levels("after", p, 0, 1, AdaptivePlayer.NONE);
        p.advance(200);
        check.shows("later", p, 500, 200, 100, AdaptivePlayer.PLAYING, 0, AdaptivePlayer.NONE, 1000, 1, 1, 100, 300, 5000);
        check.levels("later", p, 0, 1, 1);
    }

    private void seekKeepsThePause() {
        AdaptivePlayer p = Check.playerOf(2, 100, 10);
        p.setBuffer(200, 1);
        check.command(p, "seek 0", 1);
        check.due("isPaused()", p.isPaused(), 0);
        p.advance(50);
        check.command(p, "pause", 1);
        check.command(p, "seek 1", 1);
        check.due("isPaused() after the seek", p.isPaused(), 1);
        check.due("advance(60000)", p.advance(60000), 1);
        check.shows("nothing is played", p, 60050, 100, 100, AdaptivePlayer.STARTING, 1);
        check.command(p, "play", 1);
        p.advance(1);
        check.due("state()", p.state(), AdaptivePlayer.PLAYING);
    }

    private void typedAtTheEnd() {
        AdaptivePlayer p = new AdaptivePlayer();
        check.command(p, "play", 0);
        check.command(p, "yalp", AdaptivePlayer.SYNTAX);
        check.command(p, "cap 01", 1);
        check.command(p, "cap 10", AdaptivePlayer.NO_SUCH_INDEX);
        check.due("typeKey('c')", p.typeKey('c'), 1);
        check.due("typeKey(31) types nothing", p.typeKey(31), AdaptivePlayer.BAD_VALUE);
        check.due("typeKey('a')", p.typeKey('a'), 2);
        check.due("typeKey('p')", p.typeKey('p'), 3);
        check.due("typeKey(' ')", p.typeKey(' '), 4);
        check.due("typeKey('1')", p.typeKey('1'), 5);
        check.due("runCommand()", p.runCommand(), 0);
    }

    private void characterRange() {
        for (int character : Check.around(32, 126)) {
            check.due("typeKey(" + character + ")", new AdaptivePlayer().typeKey(character),
                Check.isIn(character, 32, 126) ? 1 : AdaptivePlayer.BAD_VALUE);
        }
        AdaptivePlayer p = new AdaptivePlayer();
        for (int character = -1; character <= 256; character++) {
            check.due("typeKey(" + character + ")", p.typeKey(character),
                Check.isIn(character, 32, 126) ? 1 : AdaptivePlayer.BAD_VALUE);
            if (Check.isIn(character, 32, 126)) {
                check.due("runCommand()", p.runCommand(), AdaptivePlayer.SYNTAX);
            }
        }
    }

    private void sixteenCharacters() {
        AdaptivePlayer p = new AdaptivePlayer();
        String text = "policy fixedxxxx";
        for (int i = 1; i <= 16; i++) {
            check.due("typeKey no. " + i, p.typeKey(text.charAt(i - 1)), i);
        }
        check.due("typeKey no. 17", p.typeKey('x'), AdaptivePlayer.FULL);
        check.due("typeKey no. 17 again", p.typeKey(32), AdaptivePlayer.FULL);
        check.due("typeKey(31) as no. 17", p.typeKey(31), AdaptivePlayer.BAD_VALUE);
        check.due("typeKey(127) as no. 17", p.typeKey(127), AdaptivePlayer.BAD_VALUE);
        check.due("runCommand()", p.runCommand(), AdaptivePlayer.SYNTAX);
        check.due("typeKey no. 1", p.typeKey('x'), 1);
    }

    private void commandRunsOnce() {
        AdaptivePlayer p = new AdaptivePlayer();
        check.command(p, "pause", 1);
        check.due("runCommand() again, of nothing", p.runCommand(), AdaptivePlayer.SYNTAX);
        check.due("isPaused()", p.isPaused(), 1);
        check.command(p, "play", 1);
        check.due("isPaused()", p.isPaused(), 0);
    }

    private void emptyAfterwards() {
        String[] texts = {"pause", "pause", "play", "play", "policy rate", "policy rate", "cap 1", "cap 1", "cap 5",
            "seek 1", "seek 10", "policy x", "cap", "x", "                ", "0123456789abcdef"};
        AdaptivePlayer p = new AdaptivePlayer();
        for (String text : texts) {
            for (int i = 0; i < text.length(); i++) {
                p.typeKey(text.charAt(i));
            }
            p.runCommand();
            check.due("typeKey after \"" + text + "\"", p.typeKey('y'), 1);
            p.runCommand();
        }
    }

    private void changesAnswerOne() {
        AdaptivePlayer p = new AdaptivePlayer();
        String[] names = {"fixed", "rate", "buffer", "hybrid"};
        String policy = "fixed";
        for (String before : names) {
            for (String name : names) {
                check.command(p, "policy " + before, before.equals(policy) ? 0 : 1);
                check.command(p, "policy " + name, before.equals(name) ? 0 : 1);
                policy = name;
            }
        }
        p = new AdaptivePlayer();
        int cap = 4;
        for (int before = 0; before <= 4; before++) {
            for (int next = 0; next <= 4; next++) {
                check.command(p, "cap " + before, before == cap ? 0 : 1);
                check.command(p, "cap " + next, before == next ? 0 : 1);
                cap = next;
            }
        }
        p = new AdaptivePlayer();
        check.command(p, "play", 0);
        check.command(p, "pause", 1);
        check.command(p, "pause", 0);
        check.command(p, "play", 1);
        check.command(p, "play", 0);
        check.command(p, "seek 0", 1);
        check.command(p, "seek 0", 1);
    }

    private void capAboveFour() {
        AdaptivePlayer p = Check.playerOf(1, 100, 1, 2);
        check.command(p, "cap 3", 1);
        for (int cap = 5; cap <= 99; cap += cap < 11 ? 1 : 11) {
            check.command(p, "cap " + cap, AdaptivePlayer.NO_SUCH_INDEX);
        }
        check.command(p, "cap 05", AdaptivePlayer.NO_SUCH_INDEX);
        check.command(p, "cap 99", AdaptivePlayer.NO_SUCH_INDEX);
        check.command(p, "cap 3", 0);
        check.command(p, "cap 4", 1);
    }

    private void seekBehindTheEnd() {
        int[] counts = {1, 9, 10, 11, 30};
        for (int count : counts) {
            AdaptivePlayer p = Check.playerOf(count, 100, 1);
            check.command(p, "seek " + (count - 1), 1);
            p.advance(1);
            int[] before = Check.shown(p);
            check.command(p, "seek " + count, AdaptivePlayer.NO_SUCH_INDEX);
            check.command(p, "seek 30", AdaptivePlayer.NO_SUCH_INDEX);
            check.command(p, "seek 99", AdaptivePlayer.NO_SUCH_INDEX);
            check.shows("nothing changed", p, before);
        }
    }

    private void syntaxBeforeNoSuchIndex() {
        AdaptivePlayer p = Check.playerOf(1, 100, 1);
        check.command(p, "cap 99", AdaptivePlayer.NO_SUCH_INDEX);
        check.command(p, "cap 99 ", AdaptivePlayer.SYNTAX);
        check.command(p, "cap 999", AdaptivePlayer.SYNTAX);
        check.command(p, "seek 99", AdaptivePlayer.NO_SUCH_INDEX);
        check.command(p, "seek 99x", AdaptivePlayer.SYNTAX);
        check.command(p, "seek 999", AdaptivePlayer.SYNTAX);
        check.command(p, "Seek 99", AdaptivePlayer.SYNTAX);
    }
}
