/** Promises 13 to 16: each edge that they name, just below it, at it, and just above it. */
public final class WhatIfEdgesTest {
    private WhatIfEdgesTest() {
    }

    private static void due(String call, long got, long want) {
        Due.due(call, got, want);
    }

    private static int isTrue(boolean is) {
        return is ? 1 : 0;
    }

    /** Lit at a speed of about 200: it runs behind 15 ticks or so. */
    private static JetStarts lit() {
        JetStarts x = Engines.turning(200);
        x.set(JetStarts.DRAG, 4);
        x.spark(true);
        x.fuel(10);
        x.tick(1);
        due("lit", x.engine(6), 1);
        return x;
    }

    /** "Behind how many ticks the engine runs"; "0 if it does". */
    private static void untilRunningCountsDown() {
        JetStarts x = lit();
        int until = x.untilRunning();
        due("some ticks", isTrue(until > 3 && until < 300), 1);
        for (int left = until; left >= 1; left--) {
            due("left", x.untilRunning(), left);
            due("does not run", x.engine(8), 0);
            x.tick(1);
        }
        due("runs", x.engine(8), 1);
        due("0 if it does", x.untilRunning(), 0);
        x.tick(1);
        due("0 if it does", x.untilRunning(), 0);
    }

    /** "NONE if it does not within 300": a slow engine of a step of 2, which is also the only one that is not too hot. */
    private static void within300() {
        int[][] ticksAndUntil = {{10, -6}, {11, -6}, {12, -6}, {13, 300}, {14, 299}, {15, 298}};
        for (int[] row : ticksAndUntil) {
            JetStarts x = new JetStarts();
            x.set(JetStarts.DRAG, 1);
            x.set(JetStarts.HEAT, 16);
            x.set(JetStarts.LIMIT, 300);
            x.set(JetStarts.LIGHT, 20);
            x.set(JetStarts.HANG, 40);
            x.spark(true);
            x.fuel(2);
            x.starter(true);
            x.tick(2);
            x.starter(false);
            x.tick(row[0]);
            due("untilRunning() behind " + row[0], x.untilRunning(), row[1]);
            due("bestFuel() behind " + row[0], x.bestFuel(), row[1] > 0 ? 2 : -6);
            due("leastBattery() behind " + row[0], x.leastBattery(), row[1] > 0 ? 0 : -6);
            due("speed behind 300", isTrue(x.ifTicked(300, 0) >= 600), isTrue(row[1] > 0));
        }
    }

    /** "1 to 300" ticks, and 0 to 4 as what; each alone at its edge, and both. */
    private static void rangesOfIfTicked() {
        JetStarts x = lit();
        int[][] ticksWhatFine = {{0, 0, 0}, {1, 0, 1}, {2, 0, 1}, {299, 0, 1}, {300, 0, 1}, {301, 0, 0}, {302, 0, 0},
            {-1, 0, 0}, {1, -1, 0}, {300, -1, 0}, {1, 4, 1}, {300, 4, 1}, {1, 5, 0}, {300, 5, 0}, {0, 5, 0}, {301, -1, 0},
            {Integer.MAX_VALUE, 2, 0}, {Integer.MIN_VALUE, 2, 0}, {2, Integer.MAX_VALUE, 0}, {2, Integer.MIN_VALUE, 0}};
        for (int[] row : ticksWhatFine) {
            int answer = x.ifTicked(row[0], row[1]);
            due("ifTicked(" + row[0] + ", " + row[1] + ") " + answer, row[2] == 1 ? isTrue(answer >= 0) : answer,
                row[2] == 1 ? 1 : -2);
        }
        due("speed in 1", x.ifTicked(1, 0), x.tick(1));
    }

    /** "The battery then": charged up to 1000, and not behind the engine's end. */
    private static void batteryOfIfTicked() {
        JetStarts x = Engines.running();
        x.battery(994);
        int[] due = {997, 1000, 1000, 1000};
        for (int ticks = 1; ticks <= 4; ticks++) {
            due("battery in " + ticks, x.ifTicked(ticks, 2), due[ticks - 1]);
        }
        x.fuel(0);
        due("no flame in the next tick", x.ifTicked(1, 2), 994);
        due("nor later", x.ifTicked(300, 2), 994);
    }

    /** "Hot ticks" are above LIMIT; both they and the greatest heat are "behind any of them", none before. */
    private static void heatOfIfTicked() {
        for (int below = 0; below <= 1; below++) {
            JetStarts x = Engines.pooled(200, 100);
            x.spark(true);
            x.set(JetStarts.HEAT, 20);
            int heat = x.ifTicked(1, 1);
            x.set(JetStarts.LIMIT, heat - below);
            due("hot ticks in 1", x.ifTicked(1, 3), below);
            due("greatest heat in 1", x.ifTicked(1, 4), heat);
        }
        JetStarts x = Engines.pooled(200, 100);
        x.set(JetStarts.LIGHT, 20);
        x.set(JetStarts.LIMIT, 300);
        x.set(JetStarts.HEAT, 20);
        x.spark(true);
        x.tick(1);
        x.spark(false);
        x.tick(60);
        int hot = x.count(12);
        due("it was hot", isTrue(hot > 0), 1);
        due("the flame is out", x.engine(6), 0);
        due("no hot ticks from now on", x.ifTicked(300, 3), 0);
        due("the greatest heat from now on", x.ifTicked(300, 4), x.ifTicked(1, 1));
    }

    /** "Without a hot tick up to that one": one tick above LIMIT, long before it runs, is too much. */
    private static void bestFuelAndAHotTickBefore() {
        for (int below = 0; below <= 1; below++) {
            JetStarts x = Engines.pooled(200, 100);
            x.set(JetStarts.LIGHT, 20);
            x.set(JetStarts.DRAG, 4);
            x.set(JetStarts.HEAT, 20);
            x.spark(true);
            // 25 burn even without a step; the pool is smaller later, and 10 of a step alone are less
            int[] greatest = new int[11];
            int[] until = new int[11];
            for (int step = 0; step <= 10; step++) {
                x.fuel(step);
                until[step] = x.untilRunning();
                greatest[step] = until[step] > 0 ? x.ifTicked(until[step], 4) : -1;
                if (until[step] > 1) {
                    due("hotter before it runs", isTrue(x.ifTicked(until[step], 1) < greatest[step]), 1);
                }
            }
            due("the soonest without a limit", isTrue(until[10] > 1 && until[10] < until[9]), 1);
            x.set(JetStarts.LIMIT, greatest[10] - below);
            due("with a LIMIT " + below + " below", x.bestFuel(), isTrue(below == 0) * 10 + below * 9);
        }
    }

    /** "Up to that one, that one too": a tick that is hot behind it is none of them. */
    private static void bestFuelAndTheTickInWhichItRuns() {
        for (int below = 0; below <= 1; below++) {
            JetStarts x = Engines.pooled(490, 100);
            x.starter(true);
            x.set(JetStarts.CRANK, 40);
            x.set(JetStarts.HEAT, 20);
            x.set(JetStarts.LIMIT, 1500);
            x.spark(true);
            due("runs in 1", x.untilRunning(), 1);
            int heat = x.ifTicked(1, 1);
            due("hotter behind it", isTrue(x.ifTicked(2, 1) > heat), 1);
            x.set(JetStarts.LIMIT, heat - below);
            due("with a LIMIT " + below + " below", x.bestFuel(), below == 0 ? 0 : -6);
            due("runs in 1 with all that", x.untilRunning(), 1);
            due("leastBattery() does not look at the heat", isTrue(x.leastBattery() >= 0), 1);
        }
    }

    /** "Of several the least", "0 to 10". */
    private static void bestFuelOfSeveral() {
        JetStarts x = Engines.running();
        due("all of them at once", x.bestFuel(), 0);
        x.set(JetStarts.LIMIT, 300);
        due("too hot later alone", x.bestFuel(), 0);
        x = lit();
        int best = -6;
        int soonest = 301;
        for (int step = 0; step <= 10; step++) {
            x.fuel(step);
            int until = x.untilRunning();
            if (until >= 0 && until < soonest) {
                best = step;
                soonest = until;
            }
        }
        due("the soonest", x.bestFuel(), best);
        due("whatever the step is", x.engine(2), 10);
    }

    /** At 99 the next push has to bring LIGHT: "of 0, 10, 20 and so on". */
    private static void leastBatteryFromBelow() {
        // 40 * (20 - 6) / 200 = 2, 40 * (30 - 6) / 200 = 4; 101 and 103 less 1
        int[][] lightAndLeast = {{98, 0}, {99, 0}, {100, 20}, {101, 30}, {102, 30}};
        for (int[] row : lightAndLeast) {
            JetStarts x = Engines.cranked(99);
            x.set(JetStarts.CRANK, 40);
            x.set(JetStarts.LIGHT, row[0]);
            x.fuel(10);
            x.spark(true);
            due("with LIGHT " + row[0], x.leastBattery(), row[1]);
            if (row[1] > 0) {
                x.battery(row[1] - 10);
                due("10 less, LIGHT " + row[0], x.untilRunning(), -6);
                x.battery(row[1]);
                due("that, LIGHT " + row[0], isTrue(x.untilRunning() > 0), 1);
            }
        }
    }

    /** "To 1000". */
    private static void leastBatteryTo1000() {
        int[][] lightAndLeast = {{245, 980}, {246, 990}, {247, 1000}, {248, 1000}, {249, -6}, {250, -6}};
        for (int[] row : lightAndLeast) {
            JetStarts x = new JetStarts();
            x.set(JetStarts.CRANK, 3);
            x.set(JetStarts.DRAG, 1);
            x.set(JetStarts.LIGHT, row[0]);
            x.spark(true);
            x.fuel(10);
            x.starter(true);
            due("with LIGHT " + row[0], x.leastBattery(), row[1]);
            x.battery(0);
            due("whatever the battery is, LIGHT " + row[0], x.leastBattery(), row[1]);
            x.battery(row[1] > 0 ? row[1] - 10 : 1000);
            due("10 less, LIGHT " + row[0], x.untilRunning(), -6);
            x.battery(1000);
            due("1000, LIGHT " + row[0], isTrue(x.untilRunning() > 0), isTrue(row[1] > 0));
        }
        JetStarts x = Engines.running();
        due("it runs already", x.leastBattery(), 0);
    }

    /** "If nothing else is done": a start that ends on the way takes its starter along. */
    private static void endingsOnTheWay() {
        JetStarts x = Engines.pooled(300, 100);
        x.set(JetStarts.CRANK, 40);
        x.set(JetStarts.DRAG, 6);
        x.fuel(10);
        x.starter(true);
        x.spark(true);
        x.set(JetStarts.LIMIT, 1500);
        int cool = x.untilRunning();
        due("it runs", isTrue(cool > 0), 1);
        x.set(JetStarts.LIMIT, 300);
        int speed = x.ifTicked(3, 0);
        due("without the starter it does not, or later", isTrue(x.untilRunning() == -6 || x.untilRunning() > cool), 1);
        x.tick(3);
        due("hot", x.start(0, 0), 1);
        due("the starter is off", x.engine(5), 0);
        due("as it was told", x.engine(0), speed);
    }

    public static void main(String[] args) {
        untilRunningCountsDown();
        within300();
        rangesOfIfTicked();
        batteryOfIfTicked();
        heatOfIfTicked();
        bestFuelAndAHotTickBefore();
        bestFuelAndTheTickInWhichItRuns();
        bestFuelOfSeveral();
        leastBatteryFromBelow();
        leastBatteryTo1000();
        endingsOnTheWay();
        Due.end();
    }
}
