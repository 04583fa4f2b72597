/** Promises 13 to 16: untilRunning(), ifTicked(), bestFuel() and leastBattery(). */
public final class WhatIfTest {
    private WhatIfTest() {
    }

    private static void due(String call, long got, long want) {
        Due.due(call, got, want);
    }

    /** Behind 38 ticks at 600 in the next one. */
    private static JetStarts started() {
        JetStarts x = new JetStarts();
        x.spark(true);
        x.fuel(7);
        x.starter(true);
        return x;
    }

    private static void untilRunning() {
        due("cold", new JetStarts().untilRunning(), -6);
        JetStarts x = started();
        due("begun", x.untilRunning(), 39);
        x.tick(38);
        due("one tick before", x.untilRunning(), 1);
        x.tick(1);
        due("it runs", x.untilRunning(), 0);
        x.tick(20);
        due("it runs", x.untilRunning(), 0);
        x.fuel(0);
        due("it runs still", x.untilRunning(), 0);
        x.tick(2);
        due("the flame is out, the speed above 600", x.untilRunning(), -6);
        x.fuel(7);
        due("lit again", x.untilRunning() > 0 ? 1 : 0, 1);
        x = started();
        x.set(JetStarts.LIMIT, 300);
        due("a hot start ends, and its starter goes off", x.untilRunning() == 39 ? 1 : 0, 0);
        x = new JetStarts();
        x.fuel(10);
        x.starter(true);
        due("never without a spark", x.untilRunning(), -6);
    }

    /** With little drag and little fuel it takes 313 ticks more, and only that step does not get too hot. */
    private static void within300() {
        JetStarts x = new JetStarts();
        x.set(JetStarts.DRAG, 1);
        x.set(JetStarts.HEAT, 16);
        x.set(JetStarts.LIMIT, 300);
        x.set(JetStarts.LIGHT, 20);
        x.set(JetStarts.HANG, 40);
        x.spark(true);
        x.fuel(2);
        x.starter(true);
        x.tick(2);
        x.starter(false);
        x.tick(12);
        due("in 301: untilRunning()", x.untilRunning(), -6);
        due("in 301: bestFuel()", x.bestFuel(), -6);
        due("in 301: leastBattery()", x.leastBattery(), -6);
        due("speed behind 300", x.ifTicked(300, 0), 598);
        x.tick(1);
        due("in 300: untilRunning()", x.untilRunning(), 300);
        due("in 300: bestFuel()", x.bestFuel(), 2);
        due("in 300: leastBattery()", x.leastBattery(), 0);
        x.tick(99);
        x.tick(99);
        x.tick(99);
        x.tick(2);
        due("299 do not", x.engine(8), 0);
        x.tick(1);
        due("300 do", x.engine(8), 1);
    }

    private static void ifTicked() {
        JetStarts x = started();
        JetStarts y = started();
        int greatest = 0;
        for (int ticks = 1; ticks <= 300; ticks++) {
            y.tick(1);
            greatest = Math.max(greatest, y.engine(1));
            due("speed in " + ticks, x.ifTicked(ticks, 0), y.engine(0));
            due("heat in " + ticks, x.ifTicked(ticks, 1), y.engine(1));
            due("battery in " + ticks, x.ifTicked(ticks, 2), y.engine(7));
            due("hot ticks in " + ticks, x.ifTicked(ticks, 3), y.count(12));
            due("greatest heat in " + ticks, x.ifTicked(ticks, 4), greatest);
        }
    }

    /** Hot ticks and the greatest heat are those of the ticks asked for, not those before. */
    private static void ifTickedOfHotTicks() {
        JetStarts x = new JetStarts();
        x.fuel(10);
        x.tick(12);
        x.starter(true);
        x.tick(12);
        x.spark(true);
        x.set(JetStarts.LIMIT, 354);
        due("heat in 1", x.ifTicked(1, 1), 355);
        due("hot ticks in 1", x.ifTicked(1, 3), 1);
        due("hot ticks in 2", x.ifTicked(2, 3), 2);
        x.set(JetStarts.LIMIT, 355);
        due("hot ticks in 1", x.ifTicked(1, 3), 0);
        x.set(JetStarts.LIMIT, 300);
        x.tick(3);
        due("hot ticks so far", x.count(12), 3);
        due("hot ticks in 1", x.ifTicked(1, 3), 1);
        x.fuel(0);
        x.tick(40);
        int hot = x.count(12);
        due("hot ticks in 300 when it is cool", x.ifTicked(300, 3), 0);
        due("greatest heat when it is cool", x.ifTicked(300, 4) < 300 ? 1 : 0, 1);
        due("greatest heat in 1 is the heat", x.ifTicked(1, 4), x.ifTicked(1, 1));
        due("so far", x.count(12), hot);
        due("so far", x.count(16) > 354 ? 1 : 0, 1);
    }

    private static void ifTickedOfWrongInputs() {
        JetStarts x = started();
        int[] badTicks = {0, -1, 301, Integer.MIN_VALUE, Integer.MAX_VALUE};
        for (int ticks : badTicks) {
            due("ifTicked(" + ticks + ", 0)", x.ifTicked(ticks, 0), -2);
        }
        int[] badWhat = {-1, 5, Integer.MIN_VALUE, Integer.MAX_VALUE};
        for (int what : badWhat) {
            due("ifTicked(1, " + what + ")", x.ifTicked(1, what), -2);
        }
        due("ifTicked(300, 4)", x.ifTicked(300, 4) > 0 ? 1 : 0, 1);
    }

    private static void bestFuel() {
        due("cold", new JetStarts().bestFuel(), -6);
        JetStarts x = started();
        due("begun", x.bestFuel(), 10);
        due("the step stays", x.engine(2), 7);
        x.tick(39);
        due("it runs: the least of all that are 0", x.bestFuel(), 0);
        x = new JetStarts();
        x.fuel(10);
        x.starter(true);
        due("never without a spark", x.bestFuel(), -6);
    }

    private static int untilWith(JetStarts x, int step) {
        x.fuel(step);
        int ticks = x.untilRunning();
        x.undo();
        return ticks;
    }

    /** 35 burn at once: 277 of heat with a step of 10; it runs in 1 tick with several steps. */
    private static void bestFuelIsTheLeastOfSeveral() {
        JetStarts x = new JetStarts();
        x.set(JetStarts.CRANK, 40);
        x.set(JetStarts.DRAG, 1);
        x.fuel(10);
        x.starter(true);
        x.tick(13);
        x.spark(true);
        // 492 + 40 + burnt * 592 / 160, less 1 hundredth, has to be 600: 20 burn, 25 of them from the pool with any step
        due("with 0", untilWith(x, 0), 1);
        due("with 10", untilWith(x, 10), 1);
        due("the least", x.bestFuel(), 0);
        x.drain();
        // the pool is the step: 10 and 3 burn, 48; 580 less 5
        due("with 10", untilWith(x, 10), 2);
        due("with 9", untilWith(x, 9), 2);
        due("with 8", untilWith(x, 8), 3);
        due("the least of those with 2", x.bestFuel(), 9);
    }

    private static void bestFuelIsNotTooHot() {
        JetStarts x = started();
        int best = x.bestFuel();
        int[] greatest = new int[11];
        for (int step = 0; step <= 10; step++) {
            int ticks = untilWith(x, step);
            x.fuel(step);
            greatest[step] = ticks > 0 ? x.ifTicked(ticks, 4) : 0;
            x.undo();
        }
        due("the hottest is the soonest", best, 10);
        x.set(JetStarts.LIMIT, greatest[10]);
        due("at LIMIT it is not hot", x.bestFuel(), 10);
        x.set(JetStarts.LIMIT, greatest[10] - 1);
        due("above it is", x.bestFuel(), 9);
        due("though it would run", untilWith(x, 10) > 0 ? 1 : 0, 1);
        x.set(JetStarts.LIMIT, 300);
        due("all are too hot", x.bestFuel(), -6);
        x.fuel(10);
        int ticks = x.untilRunning();
        due("though it would run", ticks > 0 ? 1 : 0, 1);
        due("behind hot ticks", x.ifTicked(ticks, 3) > 0 ? 1 : 0, 1);
        int least = x.leastBattery();
        due("with this battery, too", least >= 0 ? 1 : 0, 1);
        x.battery(least);
        due("indeed", x.untilRunning() > 0 ? 1 : 0, 1);
    }

    /** Hot in the very tick in which it runs, and hot behind it. */
    private static void bestFuelAndTheTickInWhichItRuns() {
        JetStarts x = new JetStarts();
        x.set(JetStarts.CRANK, 40);
        x.set(JetStarts.DRAG, 1);
        x.fuel(10);
        x.starter(true);
        x.tick(13);
        x.spark(true);
        x.set(JetStarts.LIMIT, 300);
        x.set(JetStarts.HEAT, 40);
        due("heat with 0", x.ifTicked(1, 1) > 300 ? 1 : 0, 1);
        due("it runs in 1", untilWith(x, 0), 1);
        due("hot in that tick", x.bestFuel(), -6);
        x.set(JetStarts.HEAT, 12);
        due("not hot", x.bestFuel(), 0);
        due("hot behind it does not matter", x.ifTicked(3, 3) > 0 ? 1 : 0, 1);
        x.fuel(0);
        x.set(JetStarts.HEAT, 20);
        x.tick(1);
        due("it runs", x.engine(8), 1);
        due("no tick ahead can be hot", x.bestFuel(), 0);
    }

    private static void leastBattery() {
        due("cold", new JetStarts().leastBattery(), -6);
        JetStarts x = started();
        int least = x.leastBattery();
        due("of 10, 20 and so on", least % 10, 0);
        x.battery(least);
        due("it does", x.untilRunning() > 0 ? 1 : 0, 1);
        x.battery(least - 10);
        due("10 less does not", x.untilRunning(), -6);
        due("the battery of now does not matter", x.leastBattery(), least);
        due("it stays", x.engine(7), least - 10);
        x.battery(0);
        due("nor does none", x.leastBattery(), least);
        x.battery(1000);
        x.tick(39);
        due("it runs", x.leastBattery(), 0);
        x = started();
        x.set(JetStarts.CRANK, 1);
        due("not with 1000", x.leastBattery(), -6);
    }

    private static void nothingChanges() {
        JetStarts x = started();
        x.starter(false);
        x.tick(1);
        x.starter(true);
        Due.putAll(x, "c;.2");
        x.save(1);
        x.tick(15);
        int[] before = Due.everything(x);
        x.untilRunning();
        Due.same("untilRunning()", Due.everything(x), before);
        x.ifTicked(300, 4);
        Due.same("ifTicked()", Due.everything(x), before);
        x.bestFuel();
        Due.same("bestFuel()", Due.everything(x), before);
        x.leastBattery();
        Due.same("leastBattery()", Due.everything(x), before);
        due("the slot stays", x.restore(1), 1);
        due("the pad stays", x.run(), 2);
    }

    public static void main(String[] args) {
        untilRunning();
        within300();
        ifTicked();
        ifTickedOfHotTicks();
        ifTickedOfWrongInputs();
        bestFuel();
        bestFuelIsTheLeastOfSeveral();
        bestFuelIsNotTooHot();
        bestFuelAndTheTickInWhichItRuns();
        leastBattery();
        nothingChanges();
        Due.end();
    }
}
