/** "A tick" of the terms: what happens in one, step by step. */
public final class EngineTickTest {
    private EngineTickTest() {
    }

    private static void due(String call, long got, long want) {
        Due.due(call, got, want);
    }

    private static void engineIs(String when, JetStarts x, int speed, int heat, int pool, int battery, int flame) {
        due(when + ": speed", x.engine(0), speed);
        due(when + ": heat", x.engine(1), heat);
        due(when + ": pool", x.engine(3), pool);
        due(when + ": battery", x.engine(7), battery);
        due(when + ": flame", x.engine(6), flame);
    }

    /** Cranked for 12 ticks without fuel: at a speed of 134. */
    private static JetStarts at134() {
        JetStarts x = new JetStarts();
        x.starter(true);
        x.tick(12);
        return x;
    }

    private static void crank() {
        int[] speeds = {14, 27, 40, 52, 64, 75, 86, 96, 106, 116, 125, 134};
        JetStarts x = new JetStarts();
        x.starter(true);
        for (int i = 0; i < speeds.length; i++) {
            due("cranked", x.tick(1), speeds[i]);
            due("battery", x.engine(7), 1000 - 6 * (i + 1));
        }
    }

    private static void pushOfBattery() {
        int[][] chargeThenPush = {{1000, 994, 40}, {207, 201, 40}, {206, 200, 40}, {205, 199, 39}, {204, 198, 39},
            {106, 100, 20}, {105, 99, 19}, {16, 10, 2}, {10, 4, 0}, {7, 1, 0}, {6, 0, 0}, {5, 0, 0}, {1, 0, 0}};
        for (int[] row : chargeThenPush) {
            JetStarts x = new JetStarts();
            x.set(JetStarts.CRANK, 40);
            x.set(JetStarts.DRAG, 1);
            x.battery(row[0]);
            x.starter(true);
            due("push of a battery of " + row[0], x.tick(1), row[2]);
            due("battery behind " + row[0], x.engine(7), row[1]);
            due("the starter stays on", x.engine(5), 1);
        }
    }

    private static void emptyBatteryCutsOut() {
        JetStarts x = new JetStarts();
        x.battery(6);
        x.starter(true);
        x.tick(1);
        due("on, though it is 0 then", x.engine(5), 1);
        x.tick(1);
        due("off with 0", x.engine(5), 0);
    }

    private static void speedCutsOut() {
        JetStarts x = new JetStarts();
        x.set(JetStarts.CRANK, 16);
        x.set(JetStarts.DRAG, 3);
        x.starter(true);
        due("92 ticks", x.tick(92), 499);
        due("on", x.engine(5), 1);
        due("cranked at 499", x.tick(1), 500);
        due("on still", x.engine(5), 1);
        due("battery", x.engine(7), 1000 - 93 * 6);
        due("not cranked at 500", x.tick(1), 485);
        due("off", x.engine(5), 0);
        due("battery", x.engine(7), 1000 - 93 * 6);
    }

    private static void pool() {
        JetStarts x = new JetStarts();
        x.fuel(7);
        x.tick(14);
        due("14 times 7", x.engine(3), 98);
        x.tick(1);
        due("100 at most", x.engine(3), 100);
        x.fuel(0);
        x.tick(1);
        due("it stays without fuel", x.engine(3), 100);
        x.spark(true);
        x.tick(3);
        engineIs("a spark on an engine that stands still", x, 0, 0, 100, 1000, 0);
    }

    private static void lights() {
        JetStarts x = at134();
        x.spark(true);
        x.tick(1);
        due("no flame without fuel", x.engine(6), 0);
        x = at134();
        x.fuel(1);
        x.tick(5);
        due("no flame without a spark", x.engine(6), 0);
        due("the pool", x.engine(3), 5);
        x.fuel(0);
        x.spark(true);
        x.tick(1);
        due("a flame of the pool alone", x.engine(6), 1);
        due("a quarter of 5, rounded up, leaves it", x.engine(3), 3);
        x = at134();
        x.set(JetStarts.LIGHT, 134);
        x.spark(true);
        x.fuel(7);
        due("lit at LIGHT", x.ifTicked(1, 1) > 0 ? 1 : 0, 1);
        x.set(JetStarts.LIGHT, 135);
        due("not lit below LIGHT", x.ifTicked(1, 1), 0);
        x.tick(1);
        due("not lit below LIGHT", x.engine(6), 0);
    }

    /** An engine that ran, without fuel and flame: its speed is 700 or 701. */
    private static JetStarts fallenTo(int crank, int ticks, int ticksThen, int speed) {
        JetStarts x = new JetStarts();
        x.set(JetStarts.CRANK, crank);
        x.spark(true);
        x.fuel(7);
        x.starter(true);
        x.tick(ticks);
        x.fuel(0);
        due("fallen to", x.tick(ticksThen), speed);
        due("no flame", x.engine(6), 0);
        x.fuel(1);
        return x;
    }

    private static void lightsUpTo700() {
        JetStarts x = fallenTo(17, 75, 4, 700);
        x.tick(1);
        due("lit at 700", x.engine(6), 1);
        // the pool has 1: it burns 2, and 2 * 800 / 160 = 10; 710 less 28
        due("speed", x.engine(0), 682);
        due("runs at once", x.engine(8), 1);
        x = fallenTo(18, 60, 1, 701);
        x.tick(1);
        due("not lit at 701", x.engine(6), 0);
        due("speed", x.engine(0), 701 - 28);
    }

    private static void burns() {
        JetStarts x = at134();
        x.spark(true);
        x.fuel(7);
        // 7 in the pool: 2 leave it, 9 burn: 9 * 234 / 160 = 13; 134 + 14 + 13 = 161, less 6; 108 less 108 * 8 * 355 / 20000
        x.tick(1);
        engineIs("lit", x, 155, 108 - 15, 5, 922, 1);
        // 2 of 5 leave, 9 burn: 9 * 255 / 160 = 14; 155 + 14 + 14 = 183, less 7; 201 less 201 * 8 * 376 / 20000 = 30
        x.tick(1);
        engineIs("burns", x, 176, 171, 3, 916, 1);
        // 1 of 3 leaves, 8 burn: 8 * 276 / 160 = 13; 203, less 8; 267 less 267 * 8 * 395 / 20000 = 42
        x.tick(1);
        engineIs("burns on", x, 195, 225, 2, 910, 1);
        // 1 of 2, then 1 of 1; then the step alone
        x.tick(1);
        due("pool", x.engine(3), 1);
        x.tick(1);
        due("pool", x.engine(3), 0);
        x.tick(1);
        due("the pool stays empty with a flame", x.engine(3), 0);
    }

    private static void goesOutWithoutFuel() {
        JetStarts x = at134();
        x.fuel(2);
        x.spark(true);
        x.tick(1);
        due("pool", x.engine(3), 1);
        x.fuel(0);
        x.tick(1);
        due("burns the pool's last", x.engine(6), 1);
        due("pool", x.engine(3), 0);
        int heat = x.engine(1);
        int speed = x.engine(0);
        x.tick(1);
        due("out", x.engine(6), 0);
        due("went out", x.count(15), 1);
        due("nothing burns", x.engine(0), speed + 14 - (speed + 14) * 4 / 100);
        due("it cools", x.engine(1), heat - heat * 8 * (x.engine(0) + 200) / 20000);
        x.fuel(3);
        x.tick(1);
        due("lit again, while the spark is on", x.engine(6), 1);
        due("new flames", x.count(14), 2);
        x.spark(false);
        x.tick(1);
        due("it burns without a spark", x.engine(6), 1);
        x.fuel(0);
        due("it burns of the pool", x.engine(3), 1);
        x.tick(1);
        due("with a step of 0", x.engine(6), 1);
    }

    private static void goesOutOfSlowness() {
        JetStarts x = at134();
        x.spark(true);
        x.fuel(7);
        x.tick(1);
        x.set(JetStarts.LIGHT, 311);
        x.tick(1);
        due("155 is not below half of 311", x.engine(6), 1);
        x.undo();
        x.set(JetStarts.LIGHT, 312);
        x.tick(1);
        // the pool gets nothing in the tick in which the flame goes out; 155 + 14 less 6, and 93 less 93 * 8 * 363 / 20000
        engineIs("155 is below half of 312", x, 163, 80, 5, 916, 0);
        x.tick(1);
        due("the pool grows again", x.engine(3), 12);
    }

    private static void ends() {
        JetStarts x = at134();
        x.set(JetStarts.DRAG, 1);
        x.set(JetStarts.HEAT, 40);
        x.set(JetStarts.COOL, 1);
        x.set(JetStarts.LIMIT, 1500);
        x.fuel(10);
        x.tick(10);
        x.spark(true);
        int greatest = 0;
        for (int i = 0; i < 99; i++) {
            x.tick(1);
            greatest = Math.max(greatest, x.engine(0));
        }
        due("speed at most", greatest, 1100);
        due("speed stays there", x.engine(0), 1100);
        // 2000 at most, then less by 2000 * 1 * 1300 / 20000
        due("heat", x.engine(1), 1870);
        due("greatest heat", x.count(16) <= 2000 ? 1 : 0, 1);
        // 10 burn: 1100 + 75, less 11 hundredths; 2000 less 2000 * 1 * 1246 / 20000
        x.set(JetStarts.DRAG, 11);
        due("slower", x.tick(1), 1046);
        due("heat of 2000 at most", x.engine(1), 1876);
        x.set(JetStarts.COOL, 40);
        x.tick(1);
        due("heat is not below 0", x.engine(1), 0);
    }

    private static void charges() {
        JetStarts x = new JetStarts();
        x.spark(true);
        x.fuel(7);
        x.starter(true);
        x.tick(38);
        due("cut out before", x.engine(5), 0);
        int charge = x.engine(7);
        due("at 600", x.tick(1), 600);
        due("it runs", x.engine(8), 1);
        due("the ticks it ran", x.count(13), 1);
        due("charged in the tick", x.engine(7), charge + 3);
        x.tick(60);
        x.battery(996);
        x.tick(1);
        due("charged", x.engine(7), 999);
        x.tick(1);
        due("1000 at most", x.engine(7), 1000);
        x.tick(1);
        due("1000 at most", x.engine(7), 1000);
        x = new JetStarts();
        x.set(JetStarts.CRANK, 16);
        x.spark(true);
        x.fuel(10);
        x.starter(true);
        due("at 599", x.tick(20), 599);
        due("a flame", x.engine(6), 1);
        due("it does not run", x.engine(8), 0);
        due("the ticks it ran", x.count(13), 0);
    }

    private static void hotTicks() {
        JetStarts x = new JetStarts();
        x.fuel(10);
        x.tick(12);
        x.starter(true);
        x.tick(12);
        x.spark(true);
        x.set(JetStarts.LIMIT, 355);
        x.tick(1);
        due("heat", x.engine(1), 355);
        due("at LIMIT it is not hot", x.count(12), 0);
        x.undo();
        x.set(JetStarts.LIMIT, 354);
        x.tick(1);
        due("heat", x.engine(1), 355);
        due("above LIMIT it is", x.count(12), 1);
    }

    public static void main(String[] args) {
        crank();
        pushOfBattery();
        emptyBatteryCutsOut();
        speedCutsOut();
        pool();
        lights();
        lightsUpTo700();
        burns();
        goesOutWithoutFuel();
        goesOutOfSlowness();
        ends();
        charges();
        hotTicks();
        Due.end();
    }
}
