/** "The engine" and "A tick" of the terms: each edge that they name, just below it, at it, and just above it. */
public final class TickEdgesTest {
    private TickEdgesTest() {
    }

    private static void due(String call, long got, long want) {
        Due.due(call, got, want);
    }

    private static int isTrue(boolean is) {
        return is ? 1 : 0;
    }

    // ---- 1. the starter

    /** "If it is on, and the speed is 500 or more": it goes off, takes nothing from the battery, and does not push. */
    private static void starterAndSpeedOf500() {
        int[][] speedOnBatteryThen = {{498, 1, 994, 503}, {499, 1, 994, 504}, {500, 0, 1000, 495}, {501, 0, 1000, 496}};
        for (int[] row : speedOnBatteryThen) {
            JetStarts x = Engines.cranked(row[0]);
            x.set(JetStarts.CRANK, 10);
            due("on ahead of the tick at " + row[0], x.engine(5), 1);
            due("speed behind " + row[0], x.tick(1), row[3]);
            due("on behind " + row[0], x.engine(5), row[1]);
            due("battery behind " + row[0], x.engine(7), row[2]);
        }
    }

    /** "Or the battery is 0"; "the battery becomes 6 less, 0 at least". */
    private static void starterAndBattery() {
        int[][] chargeOnThen = {{0, 0, 0}, {1, 1, 0}, {2, 1, 0}, {5, 1, 0}, {6, 1, 0}, {7, 1, 1}, {8, 1, 2}, {12, 1, 6}};
        for (int[] row : chargeOnThen) {
            JetStarts x = Engines.cranked(100);
            x.battery(row[0]);
            x.tick(1);
            due("on behind a battery of " + row[0], x.engine(5), row[1]);
            due("battery behind " + row[0], x.engine(7), row[2]);
        }
    }

    /** "The push is CRANK, if the battery is 200 or more then, otherwise CRANK * battery / 200", rounded down. */
    private static void pushAndBattery() {
        // 7 * 28 = 196, 7 * 29 = 203, 7 * 57 = 399, 7 * 58 = 406, 7 * 199 = 1393
        int[][] chargeAndPush = {{6, 0}, {34, 0}, {35, 1}, {63, 1}, {64, 2}, {205, 6}, {206, 7}, {207, 7}, {1000, 7}};
        for (int[] row : chargeAndPush) {
            JetStarts x = Engines.cranked(0);
            x.set(JetStarts.CRANK, 7);
            x.battery(row[0]);
            due("push of a battery of " + row[0], x.tick(1), row[1]);
        }
        for (int crank = 1; crank <= 40; crank += 39) {
            JetStarts x = Engines.cranked(0);
            x.set(JetStarts.CRANK, crank);
            due("push of CRANK " + crank, x.tick(1), crank);
        }
    }

    /** "If it is off, the push is 0", and the battery stays. */
    private static void starterOff() {
        JetStarts x = Engines.turning(50);
        due("speed", x.tick(1), 50);
        due("battery", x.engine(7), 1000);
    }

    // ---- 2. the flame

    /** "The pool becomes the fuel step more, 100 at most". */
    private static void poolUpTo100() {
        int[][] poolStepThen = {{0, 0, 0}, {0, 1, 1}, {0, 10, 10}, {98, 1, 99}, {99, 1, 100}, {100, 1, 100}, {89, 10, 99},
            {90, 10, 100}, {91, 10, 100}, {99, 10, 100}, {100, 10, 100}, {100, 0, 100}, {1, 0, 1}};
        for (int[] row : poolStepThen) {
            JetStarts x = Engines.pooled(0, row[0]);
            x.fuel(row[1]);
            x.tick(1);
            due("pool of " + row[0] + " and " + row[1], x.engine(3), row[2]);
        }
    }

    /** With a flame the pool does not grow. */
    private static void poolWithFlame() {
        JetStarts x = Engines.pooled(200, 100);
        x.spark(true);
        x.tick(1);
        due("pool", x.engine(3), 75);
        x.fuel(10);
        x.tick(1);
        due("pool with a step of 10", x.engine(3), 56);
    }

    /** "The speed is from LIGHT to 700": from LIGHT. */
    private static void lightsFromLight() {
        for (int light : new int[] {20, 21, 120, 399, 400}) {
            for (int speed = light - 1; speed <= light + 1; speed++) {
                JetStarts x = Engines.turning(speed);
                x.set(JetStarts.LIGHT, light);
                x.spark(true);
                x.fuel(1);
                x.tick(1);
                due("a flame at " + speed + " with LIGHT " + light, x.engine(6), isTrue(speed >= light));
                due("new flames at " + speed + " with LIGHT " + light, x.count(14), isTrue(speed >= light));
                due("pool at " + speed + " with LIGHT " + light, x.engine(3), isTrue(speed < light));
            }
        }
    }

    /** "The speed is from LIGHT to 700": to 700. */
    private static void lightsTo700() {
        for (int speed = 698; speed <= 702; speed++) {
            JetStarts x = Engines.coasting(speed);
            x.fuel(1);
            x.tick(1);
            due("a flame at " + speed, x.engine(6), isTrue(speed <= 700));
            due("new flames at " + speed, x.count(14), speed <= 700 ? 2 : 1);
        }
    }

    /** "The pool is above 0": behind what the fuel step adds to it. */
    private static void lightsWithAPool() {
        int[][] poolStepFlame = {{0, 0, 0}, {1, 0, 1}, {0, 1, 1}, {2, 0, 1}, {0, 2, 1}};
        for (int[] row : poolStepFlame) {
            JetStarts x = Engines.pooled(200, row[0]);
            x.fuel(row[1]);
            x.tick(1);
            due("no flame without a spark", x.engine(6), 0);
            x.undo();
            x.spark(true);
            x.tick(1);
            due("a flame of a pool of " + row[0] + " and a step of " + row[1], x.engine(6), row[2]);
        }
    }

    /** "It goes out, if the fuel step and the pool are both 0". */
    private static void goesOutWithoutFuel() {
        int[][] stepThenStepPoolFlame = {{1, 0, 0, 0}, {1, 1, 0, 1}, {2, 0, 1, 1}, {2, 1, 1, 1}, {2, 10, 1, 1}};
        for (int[] row : stepThenStepPoolFlame) {
            JetStarts x = Engines.turning(300);
            x.spark(true);
            x.fuel(row[0]);
            x.tick(1);
            due("lit", x.engine(6), 1);
            due("pool", x.engine(3), row[2]);
            x.fuel(row[1]);
            x.tick(1);
            String with = " with a pool of " + row[2] + " and a step of " + row[1];
            due("flame" + with, x.engine(6), row[3]);
            due("went out" + with, x.count(15), 1 - row[3]);
            due("pool" + with, x.engine(3), 0);
        }
    }

    /** "Or the speed is below LIGHT / 2", which is rounded down. */
    private static void goesOutBelowHalfOfLight() {
        int[][] lightAndFlame = {{309, 1}, {310, 1}, {311, 1}, {312, 0}, {313, 0}, {314, 0}};
        for (int[] row : lightAndFlame) {
            JetStarts x = Engines.turning(150);
            x.spark(true);
            x.fuel(3);
            // the pool is 3, and 1 leaves it: 4 * 250 / 160 = 6; 156 less 1
            x.tick(1);
            due("lit", x.engine(6), 1);
            due("speed", x.engine(0), 155);
            x.set(JetStarts.LIGHT, row[0]);
            x.tick(1);
            due("flame at 155 with LIGHT " + row[0], x.engine(6), row[1]);
            due("went out at 155 with LIGHT " + row[0], x.count(15), 1 - row[1]);
        }
    }

    // ---- 3. burning

    /** "A quarter of the pool (rounded up) leaves it, and burns". */
    private static void quarterOfThePool() {
        int[][] poolAndQuarter = {{1, 1}, {2, 1}, {3, 1}, {4, 1}, {5, 2}, {7, 2}, {8, 2}, {9, 3}, {12, 3}, {13, 4}, {95, 24},
            {96, 24}, {97, 25}, {99, 25}, {100, 25}};
        for (int[] row : poolAndQuarter) {
            JetStarts x = Engines.pooled(60, row[0]);
            x.set(JetStarts.LIGHT, 20);
            x.set(JetStarts.HEAT, 1);
            x.set(JetStarts.COOL, 1);
            x.spark(true);
            // at 60 a unit that burns gives 160 / 160, and below 100 a DRAG of 1 takes nothing
            due("speed by a pool of " + row[0], x.tick(1), 60 + row[1]);
            due("left of a pool of " + row[0], x.engine(3), row[0] - row[1]);
            due("heat by a pool of " + row[0], x.engine(1), row[1]);
        }
    }

    /** "What burns is the fuel step and this, together. Otherwise nothing burns." */
    private static void whatBurns() {
        for (int step = 0; step <= 10; step++) {
            JetStarts x = Engines.pooled(60, 100);
            x.set(JetStarts.LIGHT, 20);
            x.set(JetStarts.HEAT, 1);
            x.set(JetStarts.COOL, 1);
            x.fuel(step);
            due("nothing burns without a spark", x.ifTicked(1, 0), 60);
            x.spark(true);
            due("speed by a step of " + step, x.tick(1), 60 + 25 + step);
        }
    }

    // ---- 4. the speed

    /** "What burns * (speed and 100, together) / 160 more (by the speed ahead of this step)". */
    private static void burningDrives() {
        // 10 and 3 burn: 13 * 159 = 2067, 13 * 160 = 2080, 13 * 161 = 2093; 13 * 172 = 2236, 13 * 173 = 2249
        int[][] speedThen = {{59, 71}, {60, 73}, {61, 74}, {72, 85}, {73, 87}};
        for (int[] row : speedThen) {
            JetStarts x = Engines.turning(row[0]);
            x.set(JetStarts.LIGHT, 20);
            x.spark(true);
            x.fuel(10);
            due("driven from " + row[0], x.tick(1), row[1]);
        }
        JetStarts x = Engines.cranked(60);
        x.set(JetStarts.LIGHT, 20);
        x.set(JetStarts.CRANK, 40);
        x.spark(true);
        x.fuel(10);
        due("the push does not count for what burns", x.tick(1), 60 + 40 + 13 - 1);
    }

    /** "Less by (that sum) * DRAG / 100", rounded down. */
    private static void drag() {
        int[][] speedDragThen = {{24, 4, 24}, {25, 4, 24}, {26, 4, 25}, {49, 4, 48}, {50, 4, 48}, {51, 4, 49}, {4, 20, 4},
            {5, 20, 4}, {6, 20, 5}, {99, 1, 99}, {100, 1, 99}, {101, 1, 100}, {199, 1, 198}, {200, 1, 198}, {0, 20, 0}};
        for (int[] row : speedDragThen) {
            JetStarts x = Engines.turning(row[0]);
            x.set(JetStarts.DRAG, row[1]);
            due(row[0] + " with a DRAG of " + row[1], x.tick(1), row[2]);
        }
        JetStarts x = Engines.cranked(24);
        x.set(JetStarts.DRAG, 4);
        x.set(JetStarts.CRANK, 1);
        due("the push is of the sum", x.tick(1), 24);
    }

    /** Fast enough that the next tick brings this speed, if it were not 1100 at most. */
    private static JetStarts aheadOf(int speed) {
        for (int between = 1040; between <= 1099; between++) {
            JetStarts x = Engines.running();
            x.set(JetStarts.DRAG, 1);
            x.fuel(10);
            x.tick(6);
            if (Engines.setForSpeed(x, between)) {
                x.tick(1);
                if (Engines.setForSpeed(x, speed)) {
                    return x;
                }
            }
        }
        due("there is a way to " + speed, 0, 1);
        return new JetStarts();
    }

    /** "1100 at most then". */
    private static void speedUpTo1100() {
        for (int speed = 1098; speed <= 1103; speed++) {
            due("speed for " + speed, aheadOf(speed).tick(1), Math.min(speed, 1100));
        }
    }

    // ---- 5. the heat

    private static void heatIs(int speed, int pool, int step, int heat, int cool, int speedThen, int heatThen) {
        JetStarts x = Engines.pooled(speed, pool);
        x.set(JetStarts.LIMIT, 1500);
        x.set(JetStarts.LIGHT, 20);
        x.set(JetStarts.HEAT, heat);
        x.set(JetStarts.COOL, cool);
        x.fuel(step);
        x.spark(true);
        due("speed from " + speed, x.tick(1), speedThen);
        due("heat from " + speed + " by HEAT " + heat + " and COOL " + cool, x.engine(1), heatThen);
    }

    /** "Less by it * COOL * (speed and 200, together) / 20000 (by the speed of now)", rounded down. */
    private static void cooling() {
        // 200 * 10 * 330 = 660000: 33 of 20000
        heatIs(100, 100, 0, 8, 10, 130, 200 - 33);
        // 189 * 13 * 407 = 999999: one less than 50 of 20000
        heatIs(165, 100, 2, 7, 13, 207, 189 - 49);
        // 651 * 27 * 487 = 8559999: one less than 428 of 20000
        heatIs(226, 100, 6, 21, 27, 287, 651 - 427);
        // 837 * 29 * 337 = 8180001: one more than 409 of 20000
        heatIs(100, 100, 6, 27, 29, 137, 837 - 409);
    }

    /** "But not below 0": at a speed of 300 a COOL of 40 takes all of it. */
    private static void heatDownTo0() {
        // 500 * 40 * 499 / 20000 = 499, 500 * 40 * 500 / 20000 = 500, 500 * 40 * 501 / 20000 = 501
        heatIs(248, 100, 0, 20, 40, 299, 1);
        heatIs(249, 100, 0, 20, 40, 300, 0);
        heatIs(250, 100, 0, 20, 40, 301, 0);
    }

    /** A running engine whose heat and what burns in the next tick are this sum. */
    private static JetStarts aheadOfHeat(int sum) {
        JetStarts x = Engines.running();
        x.set(JetStarts.COOL, 1);
        for (int i = 0; i < 60; i++) {
            if (Engines.setForHeat(x, sum)) {
                return x;
            }
            x.fuel(10);
            x.set(JetStarts.HEAT, 40 - i % 7);
            x.tick(1);
        }
        due("there is a way to a heat of " + sum, 0, 1);
        return x;
    }

    /** "What burns * HEAT more, 2000 at most", ahead of the cooling. */
    private static void heatUpTo2000() {
        for (int sum = 1997; sum <= 2004; sum++) {
            JetStarts x = aheadOfHeat(sum);
            x.tick(1);
            int most = Math.min(sum, 2000);
            due("heat for " + sum, x.engine(1), most - most * (x.engine(0) + 200) / 20000);
            due("hot", x.count(16) <= 2000 ? 1 : 0, 1);
        }
    }

    // ---- 6. running, and hot ticks

    /** A flame whose next tick leads to this speed. */
    private static JetStarts aheadOfRunning(int speed) {
        for (int between = 610; between <= 700; between++) {
            JetStarts x = Engines.running();
            x.set(JetStarts.DRAG, 20);
            x.fuel(1);
            x.tick(1);
            if (Engines.setForSpeed(x, between)) {
                x.tick(1);
                if (Engines.setForSpeed(x, speed)) {
                    return x;
                }
            }
        }
        due("there is a way to " + speed, 0, 1);
        return new JetStarts();
    }

    /** "It runs, if it has a flame, and its speed is 600 or more"; "the battery becomes 3 more" then. */
    private static void runsFrom600() {
        for (int speed = 598; speed <= 602; speed++) {
            JetStarts x = aheadOfRunning(speed);
            x.battery(500);
            int ran = x.count(13);
            due("speed", x.tick(1), speed);
            due("a flame at " + speed, x.engine(6), 1);
            due("it runs at " + speed, x.engine(8), isTrue(speed >= 600));
            due("battery at " + speed, x.engine(7), speed >= 600 ? 503 : 500);
            due("ticks in which it ran, at " + speed, x.count(13), ran + isTrue(speed >= 600));
        }
        JetStarts x = Engines.coasting(600);
        int ran = x.count(13);
        due("600 without a flame", x.engine(8), 0);
        x.set(JetStarts.DRAG, 1);
        x.battery(500);
        due("then", x.tick(1), 594);
        due("battery without a flame", x.engine(7), 500);
        x = Engines.coasting(650);
        x.battery(500);
        x.set(JetStarts.DRAG, 1);
        due("650 without a flame", x.tick(1), 644);
        due("it does not run", x.engine(8), 0);
        due("battery without a flame", x.engine(7), 500);
        due("ticks in which it ran", x.count(13), ran);
    }

    /** "The battery becomes 3 more, 1000 at most". */
    private static void chargesUpTo1000() {
        int[][] chargeThen = {{0, 3}, {995, 998}, {996, 999}, {997, 1000}, {998, 1000}, {999, 1000}, {1000, 1000}};
        for (int[] row : chargeThen) {
            JetStarts x = Engines.running();
            x.battery(row[0]);
            x.tick(1);
            due("battery of " + row[0], x.engine(7), row[1]);
        }
    }

    /** "If the heat is above LIMIT, this is a hot tick": the heat behind the cooling. */
    private static void hotAboveLimit() {
        int[][] limitAndHot = {{332, 1}, {333, 1}, {334, 0}, {335, 0}};
        for (int[] row : limitAndHot) {
            JetStarts x = Engines.pooled(100, 100);
            x.set(JetStarts.LIGHT, 20);
            x.set(JetStarts.HEAT, 16);
            x.set(JetStarts.COOL, 10);
            x.set(JetStarts.LIMIT, row[0]);
            x.spark(true);
            // 400 less 400 * 10 * 330 / 20000
            x.tick(1);
            due("heat", x.engine(1), 334);
            due("hot ticks with a LIMIT of " + row[0], x.count(12), row[1]);
            due("the greatest heat is that behind the tick", x.count(16), 334);
        }
    }

    public static void main(String[] args) {
        starterAndSpeedOf500();
        starterAndBattery();
        pushAndBattery();
        starterOff();
        poolUpTo100();
        poolWithFlame();
        lightsFromLight();
        lightsTo700();
        lightsWithAPool();
        goesOutWithoutFuel();
        goesOutBelowHalfOfLight();
        quarterOfThePool();
        whatBurns();
        burningDrives();
        drag();
        speedUpTo1100();
        cooling();
        heatDownTo0();
        heatUpTo2000();
        runsFrom600();
        chargesUpTo1000();
        hotAboveLimit();
        Due.end();
    }
}
