/** The five examples of the document, call by call. */
public final class ExamplesTest {
    private static final Check check = new Check();

    public static void main(String[] args) {
        stall();
        lowestLevel();
        seekAndBadCap();
        errors();
        connectionWithoutRate();
        check.end();
    }

    private static void stall() {
        AdaptivePlayer p = new AdaptivePlayer();
        check.due("1: setVideo(2, 1000)", p.setVideo(2, 1000), 2000);
        check.due("1: addLevel(500)", p.addLevel(500), 0);
        check.due("1: addLevel(2000)", p.addLevel(2000), 1);
        check.due("1: setBuffer(5000, 1000)", p.setBuffer(5000, 1000), 1);
        check.due("1: segmentSize(1, 0)", p.segmentSize(1, 0), 2000000);
        check.due("1: advance(2000)", p.advance(2000), 1);
        check.due("1: state()", p.state(), 1);
        check.due("1: advance(1)", p.advance(1), 0);
        check.due("1: state()", p.state(), 1);
        check.due("1: bufferLevel()", p.bufferLevel(), 999);
        check.due("1: throughputEstimate()", p.throughputEstimate(), 1000);
        check.due("1: advance(4000)", p.advance(4000), 1);
        check.due("1: state()", p.state(), 3);
        check.due("1: stallCount()", p.stallCount(), 1);
        check.due("1: stallTime()", p.stallTime(), 1000);
    }

    private static void lowestLevel() {
        AdaptivePlayer p = new AdaptivePlayer();
        check.due("2: setVideo(3, 1000)", p.setVideo(3, 1000), 3000);
        check.due("2: addLevel(400)", p.addLevel(400), 0);
        check.due("2: addLevel(900)", p.addLevel(900), 1);
        check.command(p, "cap 0", 1);
        check.due("2: advance(400)", p.advance(400), 1);
        check.due("2: segmentLevel(0)", p.segmentLevel(0), 0);
        check.due("2: throughputEstimate()", p.throughputEstimate(), 1000);
        check.due("2: downloadingSegment()", p.downloadingSegment(), -6);
    }

    private static void seekAndBadCap() {
        AdaptivePlayer p = new AdaptivePlayer();
        check.due("3: addLevel(100)", p.addLevel(100), 0);
        check.command(p, "seek 9", 1);
        check.due("3: position()", p.position(), 18000);
        check.due("3: state()", p.state(), 0);
        check.command(p, "cap", -5);
    }

    private static void errors() {
        AdaptivePlayer p = new AdaptivePlayer();
        check.command(p, "seek 10", -2);
        check.due("4: setBuffer(50, 1)", p.setBuffer(50, 1), -1);
        check.due("4: addLevel(0)", p.addLevel(0), -1);
        check.due("4: advance(1)", p.advance(1), -4);
    }

    private static void connectionWithoutRate() {
        AdaptivePlayer p = new AdaptivePlayer();
        check.due("5: advance(1)", p.advance(1), -4);
        check.due("5: setVideo(1, 100)", p.setVideo(1, 100), 100);
        check.due("5: addLevel(1000)", p.addLevel(1000), 0);
        check.due("5: addPeriod(50, 0)", p.addPeriod(50, 0), 1);
        check.due("5: addPeriod(10, 1000)", p.addPeriod(10, 1000), 2);
        check.due("5: setBuffer(200, 1)", p.setBuffer(200, 1), 1);
        check.due("5: advance(149)", p.advance(149), 0);
        check.due("5: downloadingSegment()", p.downloadingSegment(), 0);
        check.due("5: advance(1)", p.advance(1), 1);
        check.due("5: downloadingSegment()", p.downloadingSegment(), -6);
        check.due("5: bufferLevel()", p.bufferLevel(), 100);
        check.due("5: simulatedStallTime(0)", p.simulatedStallTime(0), 0);
        check.due("5: bestSmoothLevel()", p.bestSmoothLevel(), 0);
    }
}
