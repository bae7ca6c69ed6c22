/** Promises 25 to 28: sizes and what-if runs. */
public final class WhatIfTest {
    private static final Check check = new Check();

    public static void main(String[] args) {
        promise25SegmentSize();
        promise26And27Errors();
        promise26SimulatedStallTime();
        promise26And27PresentSessionStays();
        promise26And27EqualASession();
        promise26And27EndAt120000();
        promise27SimulatedBitrateSum();
        promise28BestSmoothLevel();
        promise28EndsAt120000();
        check.end();
    }

    private static void promise25SegmentSize() {
        AdaptivePlayer p = new AdaptivePlayer();
        check.due("segmentSize(0, 0) without levels", p.segmentSize(0, 0), AdaptivePlayer.NO_SUCH_INDEX);
        p.setVideo(3, 101);
        p.addLevel(7);
        p.addLevel(9);
        p.setVariation(1, 33);
        p.setVariation(2, 0);
        int[][] sizes = {{0, 0, 707}, {0, 1, 233}, {0, 2, 0}, {1, 0, 909}, {1, 1, 299}, {1, 2, 0}};
        for (int[] s : sizes) {
            check.due("segmentSize(" + s[0] + ", " + s[1] + ")", p.segmentSize(s[0], s[1]), s[2]);
        }
        int[] wrong = {-1, 3, 5, 30, Integer.MIN_VALUE, Integer.MAX_VALUE};
        for (int w : wrong) {
            check.due("segmentSize(0, " + w + ")", p.segmentSize(0, w), AdaptivePlayer.NO_SUCH_INDEX);
            check.due("segmentSize(" + w + ", 0)", p.segmentSize(w, 0), AdaptivePlayer.NO_SUCH_INDEX);
        }
        check.due("segmentSize(2, 0)", p.segmentSize(2, 0), AdaptivePlayer.NO_SUCH_INDEX);
        p.setVideo(1, 5000);
        p.addLevel(9000);
        p.setVariation(0, 300);
        check.due("the largest size", p.segmentSize(0, 0), 135000000);
    }

    private static void promise26And27Errors() {
        AdaptivePlayer p = new AdaptivePlayer();
        int[] wrong = {-1, 4, Integer.MIN_VALUE, Integer.MAX_VALUE};
        for (int levels = 0; levels < 2; levels++) {
            for (int w : wrong) {
                check.due("simulatedStallTime(" + w + ")", p.simulatedStallTime(w), AdaptivePlayer.NO_SUCH_INDEX);
                check.due("simulatedBitrateSum(" + w + ")", p.simulatedBitrateSum(w), AdaptivePlayer.NO_SUCH_INDEX);
            }
            p.addLevel(levels + 1);
        }
        p.setVideo(1, 100);
        for (int policy = 0; policy < 4; policy++) {
            check.due("simulatedStallTime(" + policy + ")", p.simulatedStallTime(policy), AdaptivePlayer.NO_LEVELS);
            check.due("simulatedBitrateSum(" + policy + ")", p.simulatedBitrateSum(policy), AdaptivePlayer.NO_LEVELS);
        }
        check.due("bestSmoothLevel()", p.bestSmoothLevel(), AdaptivePlayer.NO_LEVELS);
    }

    private static void promise26SimulatedStallTime() {
        AdaptivePlayer p = new AdaptivePlayer();
        p.setVideo(4, 500);
        p.addLevel(300);
        p.addLevel(800);
        p.addLevel(2000);
        p.addPeriod(700, 1000);
        p.addPeriod(300, 0);
        p.addPeriod(500, 500);
        p.setBuffer(1200, 400);
        p.setVariation(1, 0);
        p.setVariation(2, 250);
        int[] stalls = {5800, 100, 100, 100};
        int[] sums = {8000, 1700, 1200, 1200};
        for (int policy = 0; policy < 4; policy++) {
            check.due("simulatedStallTime(" + policy + ")", p.simulatedStallTime(policy), stalls[policy]);
            check.due("simulatedBitrateSum(" + policy + ")", p.simulatedBitrateSum(policy), sums[policy]);
        }
        check.command(p, "cap 0", 1);
        check.due("simulatedBitrateSum(0) with cap 0", p.simulatedBitrateSum(0), 1200);
        check.due("simulatedStallTime(0) with cap 0", p.simulatedStallTime(0), 100);
    }

    private static void promise26And27PresentSessionStays() {
        AdaptivePlayer p = new AdaptivePlayer();
        p.setVideo(4, 100);
        p.addLevel(500);
        p.addLevel(1500);
        p.setBuffer(300, 100);
        check.command(p, "policy hybrid", 1);
        p.advance(170);
        check.command(p, "pause", 1);
        p.typeKey('x');
        int[] before = Check.shown(p);
        for (int policy = 0; policy < 4; policy++) {
            p.simulatedStallTime(policy);
            p.simulatedBitrateSum(policy);
        }
        p.bestSmoothLevel();
        check.shows("after what-if runs", p, before);
        check.due("segmentLevel(0)", p.segmentLevel(0), 0);
        check.due("the command line stays", p.typeKey('x'), 2);
        p.runCommand();
        check.command(p, "policy hybrid", 0);
        check.command(p, "cap 4", 0);
        check.due("a pause does not count", p.simulatedStallTime(AdaptivePlayer.FIXED), 150);
    }

    /** A what-if run answers what a session of the same policy shows at its end. */
    private static void promise26And27EqualASession() {
        String[] names = {"fixed", "rate", "buffer", "hybrid"};
        for (int policy = 0; policy < 4; policy++) {
            AdaptivePlayer p = new AdaptivePlayer();
            p.setVideo(12, 700);
            p.addLevel(300);
            p.addLevel(700);
            p.addLevel(1100);
            p.addLevel(1900);
            p.addPeriod(2000, 1500);
            p.addPeriod(1500, 200);
            p.addPeriod(3000, 1200);
            p.setBuffer(4000, 1500);
            p.setPolicyNumbers(90, 900, 2000);
            p.typeKey('p');
            int stall = p.simulatedStallTime(policy);
            int sum = p.simulatedBitrateSum(policy);
            p.runCommand();
            check.command(p, "policy " + names[policy], policy == 0 ? 0 : 1);
            p.advance(60000);
            check.due("state()", p.state(), AdaptivePlayer.FINISHED);
            check.due("stallTime() of " + names[policy], p.stallTime(), stall);
            check.due("bitrateSum() of " + names[policy], p.bitrateSum(), sum);
            check.due("simulatedStallTime at the end", p.simulatedStallTime(policy), stall);
            check.due("simulatedBitrateSum at the end", p.simulatedBitrateSum(policy), sum);
        }
    }

    private static void promise26And27EndAt120000() {
        AdaptivePlayer p = new AdaptivePlayer();
        p.setVideo(3, 100);
        p.addLevel(1000);
        p.setBuffer(1000, 100);
        p.addPeriod(100, 1000);
        p.addPeriod(1, 0);
        check.due("stalled from 200 on for ever", p.simulatedStallTime(0), 120000 - 200);
        check.due("one segment", p.simulatedBitrateSum(0), 1000);
        p.setVideo(2, 100);
        p.addLevel(1000);
        p.addPeriod(59899, 0);
        p.addPeriod(59900, 0);
        p.addPeriod(100, 1000);
        check.due("the last millisecond counts", p.simulatedBitrateSum(0), 2000);
        check.due("the stall until then", p.simulatedStallTime(0), 120000 - 200);
        AdaptivePlayer q = new AdaptivePlayer();
        q.setVideo(2, 100);
        q.addLevel(1000);
        q.setBuffer(1000, 100);
        q.addPeriod(100, 1000);
        q.addPeriod(59901, 0);
        q.addPeriod(59900, 0);
        q.addPeriod(100, 1000);
        check.due("a millisecond too late", q.simulatedBitrateSum(0), 1000);
    }

    private static void promise27SimulatedBitrateSum() {
        AdaptivePlayer p = new AdaptivePlayer();
        p.setVideo(30, 100);
        p.addLevel(9000);
        p.setBuffer(60000, 1);
        p.addPeriod(1, 9000);
        check.due("simulatedBitrateSum(0)", p.simulatedBitrateSum(0), 270000);
        check.due("advance(1)", p.advance(1), 0);
        check.due("simulatedBitrateSum(1)", p.simulatedBitrateSum(1), 270000);
        check.due("bitrateSum()", p.bitrateSum(), 0);
    }

    private static void promise28BestSmoothLevel() {
        AdaptivePlayer p = new AdaptivePlayer();
        p.setVideo(5, 100);
        p.setBuffer(500, 100);
        p.addLevel(500);
        check.due("one level", p.bestSmoothLevel(), 0);
        p.addLevel(999);
        check.due("999 at a rate of 1000", p.bestSmoothLevel(), 1);
        p.addLevel(2000);
        check.due("2000 at a rate of 1000", p.bestSmoothLevel(), 1);
        check.command(p, "cap 0", 1);
        check.command(p, "policy rate", 1);
        check.due("neither the cap nor the policy counts", p.bestSmoothLevel(), 1);
        check.command(p, "cap 0", 0);
        check.command(p, "policy rate", 0);
        p.setBuffer(500, 400);
        check.due("a higher threshold", p.bestSmoothLevel(), 2);
        p.addPeriod(1, 400);
        p.setBuffer(500, 100);
        check.due("no level without a stall", p.bestSmoothLevel(), AdaptivePlayer.NONE);
        smoothIsNotMonotonous();
    }

    /** Each level counts for itself: here the higher one ends smoothly, because its start takes longer. */
    private static void smoothIsNotMonotonous() {
        AdaptivePlayer p = new AdaptivePlayer();
        p.setVideo(2, 100);
        p.setBuffer(500, 100);
        p.addLevel(10);
        p.addLevel(11);
        p.addPeriod(1, 1000);
        p.addPeriod(200, 0);
        p.addPeriod(1, 9000);
        check.due("level 1 starts late and does not stall", p.bestSmoothLevel(), 1);
        check.due("simulatedStallTime(0)", p.simulatedStallTime(0), 0);
        check.command(p, "cap 0", 1);
        check.due("level 0 stalls", p.simulatedStallTime(0), 101);
    }

    private static void promise28EndsAt120000() {
        AdaptivePlayer p = new AdaptivePlayer();
        p.setVideo(1, 100);
        p.addLevel(1000);
        p.addPeriod(60000, 0);
        p.addPeriod(59800, 0);
        p.addPeriod(1, 1000);
        check.due("FINISHED with the last millisecond", p.bestSmoothLevel(), 0);
        AdaptivePlayer q = new AdaptivePlayer();
        q.setVideo(1, 100);
        q.addLevel(1000);
        q.addPeriod(60000, 0);
        q.addPeriod(59801, 0);
        q.addPeriod(1, 1000);
        check.due("not yet FINISHED", q.bestSmoothLevel(), AdaptivePlayer.NONE);
        check.due("without a stall", q.simulatedStallTime(0), 0);
    }
}
