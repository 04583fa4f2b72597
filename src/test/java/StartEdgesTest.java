/** "Starts" of the terms: each edge that it names, just below it, at it, and just above it. */
public final class StartEdgesTest {
    private static final int SUCCEEDED = 0, HOT = 1, HUNG = 2, DEAD = 3, NOT_YET = -6;

    private StartEdgesTest() {
    }

    private static void due(String call, long got, long want) {
        Due.due(call, got, want);
    }

    private static int isTrue(boolean is) {
        return is ? 1 : 0;
    }

    // ---- how a start begins

    /** "When the starter is turned on", not when that is refused: from a speed of 500 on, and with a battery of 0. */
    private static void beginsIfTheStarterGoesOn() {
        for (int speed = 498; speed <= 502; speed++) {
            JetStarts x = Engines.coasting(speed);
            due("none at " + speed, x.engine(9), 0);
            due("starter(true) at " + speed, x.starter(true) >= 0 ? 1 : 0, isTrue(speed < 500));
            due("under way at " + speed, x.engine(9), isTrue(speed < 500));
            due("on at " + speed, x.engine(5), isTrue(speed < 500));
            x = Engines.coasting(speed);
            x.put('c');
            due("deed at " + speed, x.run(), isTrue(speed < 500));
            due("under way by a deed at " + speed, x.engine(9), isTrue(speed < 500));
        }
        for (int charge = 0; charge <= 2; charge++) {
            JetStarts x = new JetStarts();
            x.battery(charge);
            due("starter(true) with " + charge, x.starter(true), charge > 0 ? charge : -5);
            due("under way with " + charge, x.engine(9), isTrue(charge > 0));
            x = new JetStarts();
            x.battery(charge);
            x.put('c');
            due("deed with " + charge, x.run(), isTrue(charge > 0));
            due("under way by a deed with " + charge, x.engine(9), isTrue(charge > 0));
        }
    }

    /** "And none is under way": the starter that goes on again does not begin anew, also by a deed. */
    private static void goesOnWithTheStarter() {
        JetStarts x = new JetStarts();
        x.battery(900);
        x.starter(true);
        x.tick(5);
        Due.putAll(x, "c;c");
        due("off and on", x.run(), 2);
        due("under way", x.engine(9), 1);
        x.battery(10);
        x.starter(false);
        x.starter(true);
        x.starter(false);
        x.tick(1);
        due("dead", x.start(0, 0), DEAD);
        due("all of its ticks", x.start(0, 1), 6);
        due("from the first battery on", x.start(0, 3), 2000 + 890);
        due("one start", x.start(1, 0), NOT_YET);
        x.starter(true);
        due("another one", x.engine(9), 1);
        x.starter(false);
        x.tick(1);
        due("its ticks", x.start(0, 1), 1);
        due("the one before", x.start(1, 1), 6);
    }

    // ---- how it ends

    /** "It was hot, if this was a hot tick": above LIMIT. */
    private static void hotAboveLimit() {
        int[][] limitAndEnding = {{333, HOT}, {334, NOT_YET}, {335, NOT_YET}};
        for (int[] row : limitAndEnding) {
            JetStarts x = Engines.pooled(100, 100);
            x.set(JetStarts.LIGHT, 20);
            x.set(JetStarts.HEAT, 16);
            x.set(JetStarts.COOL, 10);
            x.set(JetStarts.LIMIT, row[0]);
            x.spark(true);
            x.starter(true);
            x.set(JetStarts.CRANK, 1);
            // 400 less 400 * 10 * 330 / 20000
            x.tick(1);
            due("heat", x.engine(1), 334);
            due("ending with a LIMIT of " + row[0], x.start(0, 0), row[1]);
            due("the starter with a LIMIT of " + row[0], x.engine(5), isTrue(row[1] == NOT_YET));
            due("under way with a LIMIT of " + row[0], x.engine(9), isTrue(row[1] == NOT_YET));
        }
    }

    /** A start whose first flame, of 35 that burn at 480 or so, leads to this speed. */
    private static JetStarts aheadOf(int speed) {
        for (int before = 470; before <= 499; before++) {
            for (int drag = 1; drag <= 3; drag++) {
                if (Engines.dragged(before + 40 + 25 * (before + 100) / 160, drag) == speed) {
                    JetStarts x = Engines.pooled(before, 100);
                    x.starter(true);
                    x.set(JetStarts.CRANK, 40);
                    x.set(JetStarts.DRAG, drag);
                    x.spark(true);
                    return x;
                }
            }
        }
        due("there is a way to " + speed, 0, 1);
        return new JetStarts();
    }

    /** "It succeeded, if the engine runs": at 600 or more; the starter stays as it is then. */
    private static void succeedsFrom600() {
        for (int speed = 598; speed <= 602; speed++) {
            JetStarts x = aheadOf(speed);
            due("speed", x.tick(1), speed);
            due("ending at " + speed, x.start(0, 0), speed >= 600 ? SUCCEEDED : NOT_YET);
            due("under way at " + speed, x.engine(9), isTrue(speed < 600));
            due("succeeded at " + speed, x.count(8), isTrue(speed >= 600));
            due("the starter is on at " + speed, x.engine(5), 1);
        }
    }

    /** A flame of a step of 1 with DRAG 1 keeps its speed at 100: not greater, and not less. */
    private static JetStarts steady(int hang) {
        JetStarts x = Engines.turning(99);
        x.set(JetStarts.LIGHT, 20);
        x.set(JetStarts.HANG, hang);
        x.fuel(1);
        x.spark(true);
        due("greater", x.tick(1), 100);
        due("stalled", x.engine(10), 0);
        return x;
    }

    /** "In HANG ticks one behind the other not greater". */
    private static void hangsInHangTicks() {
        for (int hang : new int[] {2, 3, 12, 39, 40}) {
            JetStarts x = steady(hang);
            int ticks = x.count(7);
            x.starter(true);
            x.battery(0);
            if (hang > 2) {
                x.tick(hang - 2);
            }
            due("two less than HANG " + hang, x.engine(10), hang - 2);
            due("the same speed", x.tick(1), 100);
            due("one less than HANG " + hang, x.engine(10), hang - 1);
            due("it goes on", x.engine(9), 1);
            due("the same speed", x.tick(1), 100);
            due("hung with HANG " + hang, x.start(0, 0), HUNG);
            due("ticks with HANG " + hang, x.start(0, 1), ticks + hang);
            due("none is under way", x.engine(9) + x.engine(10), 0);
            due("hung so far", x.count(10), 1);
        }
    }

    /** "One behind the other": a greater speed between them begins the count anew. */
    private static void hangsNotWithAGreaterSpeedBetween() {
        JetStarts x = steady(5);
        x.tick(4);
        due("stalled", x.engine(10), 4);
        x.fuel(2);
        due("greater", x.tick(1), 101);
        due("stalled", x.engine(10), 0);
        x.fuel(1);
        x.tick(4);
        due("stalled", x.engine(10), 4);
        due("it goes on", x.engine(9), 1);
        x.tick(1);
        due("hung", x.start(0, 0), HUNG);
    }

    /** "Not greater": a speed that is less counts as one that is the same. */
    private static void hangsWithLess() {
        JetStarts x = steady(2);
        x.set(JetStarts.DRAG, 5);
        due("less", x.tick(1), 96);
        due("stalled", x.engine(10), 1);
        due("less", x.tick(1), 93);
        due("hung", x.start(0, 0), HUNG);
    }

    /** "Of this start": what the speed did ahead of it does not count. */
    private static void hangsInTicksOfThisStart() {
        JetStarts x = steady(3);
        x.tick(3);
        due("hung", x.start(0, 0), HUNG);
        x.tick(9);
        due("without a start", x.engine(10), 0);
        x.battery(1);
        x.starter(true);
        due("begun", x.engine(10), 0);
        x.tick(1);
        due("stalled", x.engine(10), 1);
        x.tick(1);
        due("stalled", x.engine(10), 2);
        due("it goes on", x.engine(9), 1);
        x.tick(1);
        due("hung", x.start(0, 1), 3);
        due("hung so far", x.count(10), 2);
    }

    /** "If there is a flame then": not in a tick without one, but in the first one with it, with more ticks than HANG. */
    private static void hangsWithAFlame() {
        JetStarts x = Engines.turning(200);
        x.set(JetStarts.HANG, 2);
        x.tick(5);
        due("stalled", x.engine(10), 5);
        due("it goes on without a flame", x.engine(9), 1);
        x.set(JetStarts.DRAG, 20);
        x.fuel(1);
        x.spark(true);
        x.tick(1);
        due("a flame", x.engine(6), 1);
        due("hung", x.start(0, 0), HUNG);
        due("ticks", x.start(0, 1), x.count(7));
    }

    /** "The first of these": hot, though it hangs in the same tick. */
    private static void hotRatherThanHung() {
        for (int below = 0; below <= 1; below++) {
            JetStarts x = steady(4);
            x.set(JetStarts.HEAT, 40);
            x.set(JetStarts.COOL, 1);
            x.set(JetStarts.LIMIT, 1500);
            x.battery(1);
            x.starter(true);
            x.fuel(10);
            x.tick(3);
            x.fuel(1);
            x.set(JetStarts.DRAG, 20);
            x.tick(3);
            due("stalled", x.engine(10), 3);
            int heat = x.ifTicked(1, 1);
            x.set(JetStarts.LIMIT, heat - below);
            due("it was not hot before", x.start(0, 0), NOT_YET);
            x.tick(1);
            due("heat", x.engine(1), heat);
            due("ending with a LIMIT " + below + " below", x.start(0, 0), below == 0 ? HUNG : HOT);
            due("one alone", x.count(9) + x.count(10), 1);
        }
    }

    /** "The first of these": hot, though it is dead in the same tick. */
    private static void hotRatherThanDead() {
        for (int below = 0; below <= 1; below++) {
            JetStarts x = Engines.pooled(200, 100);
            x.set(JetStarts.COOL, 1);
            x.set(JetStarts.LIMIT, 1500);
            x.set(JetStarts.HANG, 40);
            x.spark(true);
            x.tick(1);
            x.set(JetStarts.LIGHT, 400);
            x.set(JetStarts.DRAG, 20);
            x.spark(false);
            // it is out below 200, and then the start is dead at once
            x.tick(1);
            due("a flame still", x.engine(6), 1);
            for (int i = 0; i < 20 && x.engine(0) >= 200; i++) {
                x.tick(1);
            }
            due("a flame still", x.engine(6), 1);
            due("no ending yet", x.start(0, 0), NOT_YET);
            int heat = x.ifTicked(1, 1);
            x.set(JetStarts.LIMIT, heat - below);
            x.tick(1);
            due("no flame", x.engine(6), 0);
            due("heat", x.engine(1), heat);
            due("ending with a LIMIT " + below + " below", x.start(0, 0), below == 0 ? DEAD : HOT);
            due("one alone", x.count(9) + x.count(11), 1);
        }
    }

    /** "The first of these": hot, though the engine runs in the same tick; the starter goes off then. */
    private static void hotRatherThanSucceeded() {
        for (int below = 0; below <= 1; below++) {
            JetStarts x = aheadOf(600);
            x.set(JetStarts.HEAT, 20);
            int heat = x.ifTicked(1, 1);
            x.set(JetStarts.LIMIT, heat - below);
            due("at 600", x.tick(1), 600);
            due("it runs", x.engine(8), 1);
            due("ending with a LIMIT " + below + " below", x.start(0, 0), below == 0 ? SUCCEEDED : HOT);
            due("the starter with a LIMIT " + below + " below", x.engine(5), 1 - below);
        }
    }

    /** "It was dead, if the starter is off, there is no flame, and the speed is below LIGHT". */
    private static void deadBelowLight() {
        for (int light = 98; light <= 101; light++) {
            JetStarts x = Engines.turning(99);
            x.set(JetStarts.LIGHT, light);
            due("the same speed", x.tick(1), 99);
            due("ending with LIGHT " + light, x.start(0, 0), light > 99 ? DEAD : NOT_YET);
            due("under way with LIGHT " + light, x.engine(9), isTrue(light <= 99));
            x = Engines.cranked(98);
            x.set(JetStarts.LIGHT, light);
            x.set(JetStarts.CRANK, 1);
            due("cranked", x.tick(1), 99);
            due("the starter is on, LIGHT " + light, x.start(0, 0), NOT_YET);
        }
        JetStarts x = steady(40);
        x.set(JetStarts.LIGHT, 200);
        due("half of LIGHT", x.tick(1), 100);
        due("a flame", x.start(0, 0), NOT_YET);
        x.set(JetStarts.LIGHT, 202);
        x.tick(1);
        due("no flame", x.engine(6), 0);
        due("dead as it goes out", x.start(0, 0), DEAD);
    }

    /** The starter that goes off by itself, too; "looked at behind each tick", so not as the battery becomes 0. */
    private static void deadWithAnEmptyBattery() {
        for (int charge = 0; charge <= 7; charge++) {
            JetStarts x = Engines.cranked(50);
            x.battery(charge);
            due("not between ticks", x.start(0, 0), NOT_YET);
            x.tick(1);
            due("behind a tick from " + charge, x.start(0, 0), charge == 0 ? DEAD : NOT_YET);
            x.tick(1);
            due("behind two from " + charge, x.start(0, 0), charge <= 6 ? DEAD : NOT_YET);
        }
    }

    // ---- the log

    /** "The log has the latest 10 starts that ended". */
    private static void latestTen() {
        JetStarts x = new JetStarts();
        for (int i = 1; i <= 12; i++) {
            x.starter(true);
            x.tick(i);
            x.starter(false);
            x.set(JetStarts.LIGHT, 400);
            x.tick(1);
            due("the latest of " + i, x.start(0, 1), i + 1);
            due("the ninth of " + i, x.start(8, 1), i >= 9 ? i - 7 : -6);
            due("the tenth of " + i, x.start(9, 1), i >= 10 ? i - 8 : -6);
            due("the eleventh of " + i, x.start(10, 1), -6);
            due("dead so far", x.count(11), i);
        }
    }

    /** "The battery as it began less that as it ended", behind the tick, with what it was charged in it. */
    private static void tookFromTheBattery() {
        for (int charge = 300; charge <= 1000; charge += 100) {
            JetStarts x = aheadOf(600);
            due("the battery as it began", x.engine(7), 1000);
            x.battery(charge);
            x.tick(1);
            due("succeeded", x.start(0, 0), SUCCEEDED);
            due("battery", x.engine(7), charge - 6 + 3);
            due("what it took", x.start(0, 3), 2000 + 1000 - (charge - 6 + 3));
        }
        JetStarts x = new JetStarts();
        x.battery(1);
        x.starter(true);
        x.battery(1000);
        x.starter(false);
        x.tick(1);
        due("999 more than before", x.start(0, 3), 2000 - 999);
        x.starter(true);
        x.battery(0);
        x.tick(1);
        due("all of it", x.start(0, 3), 2000 + 1000);
        x.battery(500);
        x.starter(true);
        x.starter(false);
        x.tick(1);
        due("nothing", x.start(0, 3), 2000);
    }

    public static void main(String[] args) {
        beginsIfTheStarterGoesOn();
        goesOnWithTheStarter();
        hotAboveLimit();
        succeedsFrom600();
        hangsInHangTicks();
        hangsNotWithAGreaterSpeedBetween();
        hangsWithLess();
        hangsInTicksOfThisStart();
        hangsWithAFlame();
        hotRatherThanHung();
        hotRatherThanDead();
        hotRatherThanSucceeded();
        deadBelowLight();
        deadWithAnEmptyBattery();
        latestTen();
        tookFromTheBattery();
        Due.end();
    }
}
