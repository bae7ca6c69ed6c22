import java.util.ArrayList;
import java.util.List;
import java.util.function.Supplier;
import java.util.function.ToIntFunction;

/** The errors, their order, and that they change nothing; and the constants. */
final class ErrorBoundaries {
    private static final int BAD_VALUE = AdaptivePlayer.BAD_VALUE;
    private static final int NO_SUCH_INDEX = AdaptivePlayer.NO_SUCH_INDEX;
    private static final int FULL = AdaptivePlayer.FULL;
    private static final int NO_LEVELS = AdaptivePlayer.NO_LEVELS;
    private static final int SYNTAX = AdaptivePlayer.SYNTAX;

    /** Maximum and threshold, then safety, reservoir and cushion. */
    private static final int[] NEW_NUMBERS = {20000, 2000, 80, 4000, 8000};
    private static final int[] BUSY_NUMBERS = {320, 100, 110, 90, 150};

    /** A call with the error that is due. */
    private record Wrong(String name, ToIntFunction<AdaptivePlayer> call, int error) {
    }

    private final Check check;

    ErrorBoundaries(Check check) {
        this.check = check;
    }

    void all(Sentences s) {
        s.section("Description");
        s.test("Errors. Errors are returned as the negative constants below.", this::errorsAreNegative);
        s.test("Each method lists its errors in the order in which they are checked.", this::orderOfErrors);
        String nothing = "An error changes nothing.";
        s.test(nothing, () -> changeNothing("a new object", AdaptivePlayer::new, NEW_NUMBERS, withoutLevels()));
        s.test(nothing, () -> changeNothing("no levels", ErrorBoundaries::noLevels, NEW_NUMBERS, withoutLevels()));
        s.test(nothing, () -> changeNothingIn(AdaptivePlayer.STARTING, 5));
        s.test(nothing, () -> changeNothingIn(AdaptivePlayer.PLAYING, 150));
        s.test(nothing, () -> changeNothingIn(AdaptivePlayer.STALLED, 230));
        s.test(nothing, () -> changeNothingIn(AdaptivePlayer.FINISHED, 9000));
        s.test(nothing, () -> changeNothing("paused", ErrorBoundaries::paused, BUSY_NUMBERS, withLevels()));
        s.test(nothing, () -> changeNothing("full", ErrorBoundaries::full, NEW_NUMBERS, whenFull()));
        s.test("BAD_VALUE = -1: An argument is out of range.", () -> check.due("BAD_VALUE", BAD_VALUE, -1));
        s.test("NO_SUCH_INDEX = -2: There is no such segment, level or policy.",
            () -> check.due("NO_SUCH_INDEX", NO_SUCH_INDEX, -2));
        s.test("FULL = -3: There is no room for another level, period or character.", () -> check.due("FULL", FULL, -3));
        s.test("NO_LEVELS = -4: The video has no levels.", () -> check.due("NO_LEVELS", NO_LEVELS, -4));
        s.test("SYNTAX = -5: The text that was typed is not a command.", () -> check.due("SYNTAX", SYNTAX, -5));
        s.test("NONE = -6: There is no such thing; not an error.", this::noneIsNoError);
        s.test("STARTING = 0, PLAYING = 1, STALLED = 2, FINISHED = 3: States of the player.", this::numbersOfStates);
        s.test("FIXED = 0, RATE = 1, BUFFER = 2, HYBRID = 3: Policies.", this::numbersOfPolicies);
        s.nothingToTest("The constructor and the methods follow, a promise each: the signature, then what it does.");
    }

    private void errorsAreNegative() {
        AdaptivePlayer p = new AdaptivePlayer();
        for (Wrong wrong : withoutLevels()) {
            check.due(wrong.name, wrong.call.applyAsInt(p), wrong.error);
            check.holds(wrong.name + " is one of the constants", wrong.error >= SYNTAX && wrong.error <= BAD_VALUE);
        }
    }

    /** Each call has two faults at once. */
    private void orderOfErrors() {
        AdaptivePlayer p = full();
        check.due("addLevel(0), a sixth", p.addLevel(0), BAD_VALUE);
        check.due("addLevel(9001), a sixth", p.addLevel(9001), BAD_VALUE);
        check.due("addLevel as high as the fifth", p.addLevel(900), BAD_VALUE);
        check.due("addPeriod(0, 0), a thirteenth", p.addPeriod(0, 0), BAD_VALUE);
        check.due("addPeriod(1, 9001), a thirteenth", p.addPeriod(1, 9001), BAD_VALUE);
        check.due("typeKey(31), a seventeenth", p.typeKey(31), BAD_VALUE);
        check.due("setVariation(30, 301)", p.setVariation(30, 301), NO_SUCH_INDEX);
        check.due("setVariation(-1, -1)", p.setVariation(-1, -1), NO_SUCH_INDEX);
        p = new AdaptivePlayer();
        check.due("advance(0) without levels", p.advance(0), BAD_VALUE);
        check.due("advance(60001) without levels", p.advance(60001), BAD_VALUE);
        check.due("simulatedStallTime(4) without levels", p.simulatedStallTime(4), NO_SUCH_INDEX);
        check.due("simulatedBitrateSum(-1) without levels", p.simulatedBitrateSum(-1), NO_SUCH_INDEX);
        check.due("segmentLevel(10), which was not completed either", p.segmentLevel(10), NO_SUCH_INDEX);
        check.command(p, "cap 999", SYNTAX);
        check.command(p, "seek 999", SYNTAX);
    }

    /** Calls that are wrong for every object. */
    private static List<Wrong> always() {
        List<Wrong> all = new ArrayList<>();
        all.add(new Wrong("setVideo(0, 100)", p -> p.setVideo(0, 100), BAD_VALUE));
        all.add(new Wrong("setVideo(31, 100)", p -> p.setVideo(31, 100), BAD_VALUE));
        all.add(new Wrong("setVideo(1, 99)", p -> p.setVideo(1, 99), BAD_VALUE));
        all.add(new Wrong("setVideo(30, 5001)", p -> p.setVideo(30, 5001), BAD_VALUE));
        all.add(new Wrong("addLevel(0)", p -> p.addLevel(0), BAD_VALUE));
        all.add(new Wrong("addLevel(9001)", p -> p.addLevel(9001), BAD_VALUE));
        all.add(new Wrong("setVariation(-1, 0)", p -> p.setVariation(-1, 0), NO_SUCH_INDEX));
        all.add(new Wrong("setVariation(30, 0)", p -> p.setVariation(30, 0), NO_SUCH_INDEX));
        all.add(new Wrong("setVariation(0, -1)", p -> p.setVariation(0, -1), BAD_VALUE));
        all.add(new Wrong("setVariation(1, 301)", p -> p.setVariation(1, 301), BAD_VALUE));
        all.add(new Wrong("addPeriod(0, 0)", p -> p.addPeriod(0, 0), BAD_VALUE));
        all.add(new Wrong("addPeriod(60001, 0)", p -> p.addPeriod(60001, 0), BAD_VALUE));
        all.add(new Wrong("addPeriod(1, -1)", p -> p.addPeriod(1, -1), BAD_VALUE));
        all.add(new Wrong("addPeriod(1, 9001)", p -> p.addPeriod(1, 9001), BAD_VALUE));
        all.add(new Wrong("setBuffer(99, 1)", p -> p.setBuffer(99, 1), BAD_VALUE));
        all.add(new Wrong("setBuffer(60001, 1)", p -> p.setBuffer(60001, 1), BAD_VALUE));
        all.add(new Wrong("setBuffer(300, 0)", p -> p.setBuffer(300, 0), BAD_VALUE));
        all.add(new Wrong("setBuffer(300, 301)", p -> p.setBuffer(300, 301), BAD_VALUE));
        all.add(new Wrong("setPolicyNumbers(0, 1, 1)", p -> p.setPolicyNumbers(0, 1, 1), BAD_VALUE));
        all.add(new Wrong("setPolicyNumbers(201, 1, 1)", p -> p.setPolicyNumbers(201, 1, 1), BAD_VALUE));
        all.add(new Wrong("setPolicyNumbers(1, -1, 1)", p -> p.setPolicyNumbers(1, -1, 1), BAD_VALUE));
        all.add(new Wrong("setPolicyNumbers(1, 60001, 1)", p -> p.setPolicyNumbers(1, 60001, 1), BAD_VALUE));
        all.add(new Wrong("setPolicyNumbers(1, 1, 0)", p -> p.setPolicyNumbers(1, 1, 0), BAD_VALUE));
        all.add(new Wrong("setPolicyNumbers(1, 1, 60001)", p -> p.setPolicyNumbers(1, 1, 60001), BAD_VALUE));
        all.add(new Wrong("typeKey(31)", p -> p.typeKey(31), BAD_VALUE));
        all.add(new Wrong("typeKey(127)", p -> p.typeKey(127), BAD_VALUE));
        all.add(new Wrong("advance(0)", p -> p.advance(0), BAD_VALUE));
        all.add(new Wrong("advance(60001)", p -> p.advance(60001), BAD_VALUE));
        all.add(new Wrong("segmentLevel(-1)", p -> p.segmentLevel(-1), NO_SUCH_INDEX));
        all.add(new Wrong("segmentLevel(30)", p -> p.segmentLevel(30), NO_SUCH_INDEX));
        all.add(new Wrong("segmentSize(-1, 0)", p -> p.segmentSize(-1, 0), NO_SUCH_INDEX));
        all.add(new Wrong("segmentSize(5, 0)", p -> p.segmentSize(5, 0), NO_SUCH_INDEX));
        all.add(new Wrong("segmentSize(0, -1)", p -> p.segmentSize(0, -1), NO_SUCH_INDEX));
        all.add(new Wrong("segmentSize(0, 30)", p -> p.segmentSize(0, 30), NO_SUCH_INDEX));
        all.add(new Wrong("simulatedStallTime(-1)", p -> p.simulatedStallTime(-1), NO_SUCH_INDEX));
        all.add(new Wrong("simulatedStallTime(4)", p -> p.simulatedStallTime(4), NO_SUCH_INDEX));
        all.add(new Wrong("simulatedBitrateSum(-1)", p -> p.simulatedBitrateSum(-1), NO_SUCH_INDEX));
        all.add(new Wrong("simulatedBitrateSum(4)", p -> p.simulatedBitrateSum(4), NO_SUCH_INDEX));
        return all;
    }

    /** Commands that are wrong; the command line has to be empty before. */
    private static List<Wrong> commands() {
        List<Wrong> all = new ArrayList<>();
        String[] texts = {"", "cap", "cap x", "cap 000", "seek", "seek 000", "policy", "policy x", "pause ", "play ", "x"};
        for (String text : texts) {
            all.add(new Wrong("\"" + text + "\"", p -> typed(p, text), SYNTAX));
        }
        String[] tooHigh = {"cap 5", "cap 99", "seek 30", "seek 99"};
        for (String text : tooHigh) {
            all.add(new Wrong("\"" + text + "\"", p -> typed(p, text), NO_SUCH_INDEX));
        }
        return all;
    }

    private static int typed(AdaptivePlayer p, String text) {
        for (int i = 0; i < text.length(); i++) {
            p.typeKey(text.charAt(i));
        }
        return p.runCommand();
    }

    private static List<Wrong> withoutLevels() {
        List<Wrong> all = always();
        all.addAll(commands());
        all.add(new Wrong("advance(1)", p -> p.advance(1), NO_LEVELS));
        all.add(new Wrong("advance(60000)", p -> p.advance(60000), NO_LEVELS));
        all.add(new Wrong("segmentSize(0, 0)", p -> p.segmentSize(0, 0), NO_SUCH_INDEX));
        all.add(new Wrong("simulatedStallTime(0)", p -> p.simulatedStallTime(0), NO_LEVELS));
        all.add(new Wrong("simulatedBitrateSum(3)", p -> p.simulatedBitrateSum(3), NO_LEVELS));
        all.add(new Wrong("bestSmoothLevel()", AdaptivePlayer::bestSmoothLevel, NO_LEVELS));
        return all;
    }

    private static List<Wrong> withLevels() {
        List<Wrong> all = always();
        all.addAll(commands());
        all.add(new Wrong("addLevel as high as the highest", p -> p.addLevel(1500), BAD_VALUE));
        all.add(new Wrong("addLevel below the highest", p -> p.addLevel(1499), BAD_VALUE));
        return all;
    }

    private static List<Wrong> whenFull() {
        List<Wrong> all = always();
        all.add(new Wrong("addLevel, a sixth", p -> p.addLevel(9000), FULL));
        all.add(new Wrong("addPeriod, a thirteenth", p -> p.addPeriod(60000, 9000), FULL));
        all.add(new Wrong("typeKey, a seventeenth", p -> p.typeKey('x'), FULL));
        return all;
    }

    private static AdaptivePlayer noLevels() {
        AdaptivePlayer p = new AdaptivePlayer();
        p.setVideo(12, 100);
        p.setVariation(3, 20);
        p.addPeriod(20, 400);
        typed(p, "seek 7");
        typed(p, "cap 2");
        typed(p, "pause");
        return p;
    }

    /** Starts, plays from 100 on, stalls at 200, goes on after 300, and ends. */
    private static AdaptivePlayer busy(int time) {
        AdaptivePlayer p = Check.playerOf(6, 100, 300, 1000, 1500);
        setNumbers(p, BUSY_NUMBERS);
        p.setVariation(2, 80);
        p.addPeriod(100, 1000);
        p.addPeriod(200, 10);
        p.addPeriod(100, 1000);
        typed(p, "cap 1");
        p.advance(time);
        typed(p, "policy hybrid");
        return p;
    }

    private static AdaptivePlayer paused() {
        AdaptivePlayer p = busy(130);
        typed(p, "pause");
        return p;
    }

    private static AdaptivePlayer full() {
        AdaptivePlayer p = Check.playerOf(30, 100, 100, 300, 500, 700, 900);
        for (int i = 1; i <= 12; i++) {
            p.addPeriod(10 * i, 100 * i);
        }
        p.advance(333);
        String line = "cap 3cap 3cap 3 ";
        for (int i = 0; i < line.length(); i++) {
            p.typeKey(line.charAt(i));
        }
        return p;
    }

    private void changeNothingIn(int state, int time) {
        check.due("state() at " + time, busy(time).state(), state);
        changeNothing("in state " + state, () -> busy(time), BUSY_NUMBERS, withLevels());
    }

    private void changeNothing(String when, Supplier<AdaptivePlayer> maker, int[] numbers, List<Wrong> calls) {
        List<Integer> want = allThatCanBeSeen(maker.get(), numbers);
        for (Wrong wrong : calls) {
            AdaptivePlayer p = maker.get();
            check.due(when + ": " + wrong.name, wrong.call.applyAsInt(p), wrong.error);
            check.holds(when + ": " + wrong.name + " changes nothing", allThatCanBeSeen(p, numbers).equals(want));
        }
    }

    /** What a player shows of itself, first as it is, then in how it goes on and in its settings. */
    private static List<Integer> allThatCanBeSeen(AdaptivePlayer p, int[] numbers) {
        List<Integer> seen = new ArrayList<>();
        look(seen, p);
        for (int segment = 0; segment < 30; segment++) {
            seen.add(p.segmentLevel(segment));
            seen.add(p.segmentSize(0, segment));
        }
        for (int level = 1; level < 5; level++) {
            seen.add(p.segmentSize(level, 0));
        }
        for (int policy = 0; policy < 4; policy++) {
            seen.add(p.simulatedStallTime(policy));
            seen.add(p.simulatedBitrateSum(policy));
        }
        seen.add(p.bestSmoothLevel());
        goOn(seen, p);
        seen.add(setNumbers(p, numbers));
        settings(seen, p);
        return seen;
    }

    /** 0 if the player has these numbers already. */
    private static int setNumbers(AdaptivePlayer p, int[] numbers) {
        return p.setBuffer(numbers[0], numbers[1]) + p.setPolicyNumbers(numbers[2], numbers[3], numbers[4]);
    }

    private static void look(List<Integer> seen, AdaptivePlayer p) {
        for (int shown : Check.shown(p)) {
            seen.add(shown);
        }
    }

    private static void goOn(List<Integer> seen, AdaptivePlayer p) {
        for (int i = 0; i < 30; i++) {
            seen.add(p.advance(1));
        }
        int[] pieces = {33, 70, 200};
        for (int piece : pieces) {
            seen.add(p.advance(piece));
            look(seen, p);
        }
        seen.add(p.runCommand());
        seen.add(typed(p, "play"));
        seen.add(p.advance(400));
        look(seen, p);
    }

    private static void settings(List<Integer> seen, AdaptivePlayer p) {
        seen.add(typed(p, "policy hybrid"));
        seen.add(typed(p, "cap 1"));
        for (int segment = 0; segment < 30; segment++) {
            seen.add(p.setVariation(segment, 100));
        }
        seen.add(p.addPeriod(1, 1));
        seen.add(p.addLevel(8999));
        seen.add(p.addLevel(9000));
        seen.add(p.typeKey('x'));
    }

    private void noneIsNoError() {
        check.due("NONE", AdaptivePlayer.NONE, -6);
        AdaptivePlayer p = Check.playerOf(1, 100, 9000);
        check.due("downloadingSegment()", p.downloadingSegment(), -6);
        check.due("segmentLevel(0)", p.segmentLevel(0), -6);
        check.due("throughputEstimate()", p.throughputEstimate(), -6);
        p.addPeriod(1, 0);
        check.due("bestSmoothLevel()", p.bestSmoothLevel(), -6);
    }

    private void numbersOfStates() {
        check.due("STARTING", AdaptivePlayer.STARTING, 0);
        check.due("PLAYING", AdaptivePlayer.PLAYING, 1);
        check.due("STALLED", AdaptivePlayer.STALLED, 2);
        check.due("FINISHED", AdaptivePlayer.FINISHED, 3);
    }

    private void numbersOfPolicies() {
        check.due("FIXED", AdaptivePlayer.FIXED, 0);
        check.due("RATE", AdaptivePlayer.RATE, 1);
        check.due("BUFFER", AdaptivePlayer.BUFFER, 2);
        check.due("HYBRID", AdaptivePlayer.HYBRID, 3);
    }
}
