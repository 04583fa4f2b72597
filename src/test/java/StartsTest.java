/** "Starts" of the terms, and promise 11: how starts begin and end, and the log of them. */
public final class StartsTest {
    private static final int SUCCEEDED = 0, HOT = 1, HUNG = 2, DEAD = 3;

    private StartsTest() {
    }

    private static void due(String call, long got, long want) {
        Due.due(call, got, want);
    }

    private static void startWas(String when, JetStarts x, int ending, int ticks, int heat, int battery) {
        due(when + ": how it ended", x.start(0, 0), ending);
        due(when + ": ticks", x.start(0, 1), ticks);
        due(when + ": greatest heat", x.start(0, 2), heat);
        due(when + ": from the battery", x.start(0, 3), 2000 + battery);
        due(when + ": none is under way", x.engine(9), 0);
        due(when + ": engine(10)", x.engine(10), 0);
    }

    private static JetStarts at134() {
        JetStarts x = new JetStarts();
        x.starter(true);
        x.tick(12);
        return x;
    }

    private static void begins() {
        JetStarts x = new JetStarts();
        x.tick(5);
        due("none without a starter", x.engine(9), 0);
        x.starter(true);
        due("begins at once", x.engine(9), 1);
        x.tick(2);
        x.starter(false);
        x.battery(500);
        x.starter(true);
        due("goes on", x.engine(9), 1);
        x.tick(1);
        x.starter(false);
        due("still under way", x.engine(9), 1);
        x.tick(1);
        startWas("one start all along", x, DEAD, 4, 0, 1000 - 494);
        due("no other one", x.start(1, 0), -6);
    }

    private static void succeeds() {
        JetStarts x = new JetStarts();
        x.spark(true);
        x.fuel(7);
        x.starter(true);
        x.tick(38);
        due("not yet", x.start(0, 0), -6);
        due("not yet", x.engine(9), 1);
        due("at 600", x.tick(1), 600);
        startWas("at 600", x, SUCCEEDED, 39, x.count(16), 1000 - x.engine(7));
        due("succeeded", x.count(8), 1);
        due("the rest", x.count(9) + x.count(10) + x.count(11), 0);
        x.tick(99);
        due("no other start", x.count(8), 1);
    }

    /** With the starter on at a speed below 500, and 600 or more behind the tick. */
    private static void starterStaysOnWithSuccess() {
        JetStarts x = new JetStarts();
        x.set(JetStarts.CRANK, 40);
        x.set(JetStarts.DRAG, 1);
        x.set(JetStarts.LIMIT, 1500);
        x.fuel(10);
        x.starter(true);
        due("ahead of it", x.tick(13), 492);
        due("the pool", x.engine(3), 100);
        x.spark(true);
        // 35 burn: 35 * 592 / 160 = 129; 492 + 40 + 129 = 661, less 6
        due("in one tick", x.tick(1), 655);
        startWas("in one tick", x, SUCCEEDED, 14, x.engine(1), 6 * 14 - 3);
        due("the starter stays on", x.engine(5), 1);
        due("on, as it is", x.starter(true), -5);
        x.tick(1);
        due("and cuts out then", x.engine(5), 0);
        due("without another start", x.start(1, 0), -6);
    }

    private static void hot() {
        JetStarts x = new JetStarts();
        x.fuel(10);
        x.tick(12);
        x.starter(true);
        x.tick(12);
        x.spark(true);
        x.set(JetStarts.LIMIT, 355);
        x.tick(1);
        due("at LIMIT it goes on", x.engine(9), 1);
        x.undo();
        x.set(JetStarts.LIMIT, 354);
        due("above it", x.tick(1), 192);
        startWas("hot", x, HOT, 13, 355, 13 * 6);
        due("the starter goes off", x.engine(5), 0);
        due("the flame stays", x.engine(6), 1);
        due("hot starts", x.count(9), 1);
        x.tick(1);
        due("hot ticks without a start", x.count(12), 2);
        due("are no starts", x.count(9), 1);
    }

    /** In the tick in which the engine runs, too: 35 burn, 420 less 420 * 8 * 855 / 20000. */
    private static void hotRatherThanSuccess() {
        JetStarts x = new JetStarts();
        x.set(JetStarts.CRANK, 40);
        x.set(JetStarts.DRAG, 1);
        x.fuel(10);
        x.starter(true);
        x.tick(13);
        x.spark(true);
        x.set(JetStarts.LIMIT, 300);
        x.tick(1);
        due("heat", x.engine(1), 277);
        due("it succeeded", x.start(0, 0), SUCCEEDED);
        x.undo();
        x.set(JetStarts.HEAT, 14);
        x.tick(1);
        due("heat", x.engine(1), 323);
        due("it runs", x.engine(8), 1);
        startWas("hot and running", x, HOT, 14, 323, 6 * 14 - 3);
        due("the starter goes off", x.engine(5), 0);
        due("succeeded", x.count(8), 0);
    }

    /** A drag of 20 slows the engine down, though it burns. */
    private static void hung() {
        JetStarts x = at134();
        x.set(JetStarts.HANG, 3);
        x.set(JetStarts.DRAG, 20);
        x.set(JetStarts.LIGHT, 20);
        x.fuel(1);
        x.spark(true);
        int[] speeds = {120, 108, 99};
        for (int i = 0; i < 3; i++) {
            due("under way", x.engine(9), 1);
            due("stalled", x.engine(10), i);
            due("slower", x.tick(1), speeds[i]);
        }
        startWas("hung", x, HUNG, 15, x.count(16), 15 * 6);
        due("the starter goes off", x.engine(5), 0);
        due("the flame stays", x.engine(6), 1);
        due("hung starts", x.count(10), 1);
        due("engine(10) without a start", x.engine(10), 0);
        x.tick(5);
        due("engine(10) without a start", x.engine(10), 0);
        due("hung starts", x.count(10), 1);
    }

    private static void hungCountsTicksWithoutFlame() {
        JetStarts x = at134();
        x.set(JetStarts.HANG, 5);
        x.set(JetStarts.DRAG, 20);
        x.set(JetStarts.LIGHT, 20);
        x.fuel(1);
        x.tick(7);
        due("stalled without a flame", x.engine(10), 7);
        due("goes on without a flame", x.engine(9), 1);
        x.spark(true);
        x.tick(1);
        due("hung with the flame's first tick", x.start(0, 0), HUNG);
        due("ticks", x.start(0, 1), 20);
    }

    private static void stalledTicksAreOneBehindTheOther() {
        JetStarts x = at134();
        due("stalled", x.engine(10), 0);
        x.starter(false);
        x.tick(1);
        due("slower", x.engine(10), 1);
        x.tick(1);
        due("slower", x.engine(10), 2);
        x.starter(true);
        x.tick(1);
        due("faster", x.engine(10), 0);
        x.starter(false);
        x.tick(1);
        due("slower", x.engine(10), 1);
        x.undo();
        x.undo();
        due("undone", x.engine(10), 0);
        x = new JetStarts();
        x.battery(10);
        x.starter(true);
        x.tick(2);
        due("the same speed counts, too", x.engine(10), 2);
    }

    private static void dead() {
        JetStarts x = at134();
        x.starter(false);
        x.set(JetStarts.LIGHT, 129);
        due("134 less 5", x.tick(1), 129);
        due("at LIGHT it goes on", x.engine(9), 1);
        x.undo();
        x.set(JetStarts.LIGHT, 130);
        due("134 less 5", x.tick(1), 129);
        startWas("below LIGHT", x, DEAD, 13, 0, 72);
        due("dead starts", x.count(11), 1);
        x = at134();
        x.set(JetStarts.LIGHT, 400);
        x.tick(1);
        due("with the starter on it goes on", x.engine(9), 1);
        x = at134();
        x.fuel(7);
        x.spark(true);
        x.tick(1);
        x.starter(false);
        x.set(JetStarts.LIGHT, 300);
        due("below LIGHT", x.tick(1), 163);
        due("with a flame it goes on", x.engine(9), 1);
    }

    private static void emptyBattery() {
        JetStarts x = new JetStarts();
        x.battery(5);
        x.starter(true);
        x.tick(1);
        due("the starter is on still", x.engine(9), 1);
        x.tick(1);
        startWas("the battery is empty", x, DEAD, 2, 0, 5);
    }

    private static void batteryThatBecameMore() {
        JetStarts x = new JetStarts();
        x.battery(1);
        x.starter(true);
        x.battery(1000);
        x.starter(false);
        x.tick(1);
        startWas("more than before", x, DEAD, 1, 0, -999);
        x.starter(true);
        x.battery(0);
        x.tick(1);
        startWas("all of it", x, DEAD, 1, 0, 1000);
    }

    /** The greatest heat of this start alone, behind its ticks. */
    private static void greatestHeat() {
        JetStarts x = at134();
        x.fuel(7);
        x.spark(true);
        x.tick(1);
        due("7 and 2 burn", x.engine(1), 93);
        x.fuel(0);
        x.tick(1);
        // 93 and 24; 155 + 14 + 3 less 6 are 166; 117 less 117 * 8 * 366 / 20000
        due("2 of the pool burn", x.engine(1), 100);
        x.starter(false);
        x.tick(1);
        due("then less", x.engine(1) < 100 ? 1 : 0, 1);
        x.tick(15);
        due("dead", x.start(0, 0), DEAD);
        due("its greatest heat", x.start(0, 2), 100);
        x.starter(true);
        x.starter(false);
        int heat = x.ifTicked(1, 1);
        due("there is heat left", heat > 0 && heat < x.engine(1) ? 1 : 0, 1);
        x.tick(1);
        due("behind the second one's tick", x.start(0, 2), heat);
        due("of all", x.count(16), 100);
    }

    private static void wrongInputs() {
        JetStarts x = at134();
        x.starter(false);
        x.tick(99);
        int[] badAgo = {-1, Integer.MIN_VALUE};
        int[] badWhat = {-1, 4, Integer.MIN_VALUE, Integer.MAX_VALUE};
        for (int ago : badAgo) {
            due("start(" + ago + ", 0)", x.start(ago, 0), -2);
        }
        for (int what : badWhat) {
            due("start(0, " + what + ")", x.start(0, what), -2);
            due("start(5, " + what + "), a bad value first", x.start(5, what), -2);
        }
        due("start(0, 0)", x.start(0, 0), DEAD);
        due("start(1, 0)", x.start(1, 0), -6);
        due("start(10, 3)", x.start(10, 3), -6);
        due("start(MAX, 3)", x.start(Integer.MAX_VALUE, 3), -6);
    }

    private static void logOfTen() {
        JetStarts x = new JetStarts();
        for (int i = 1; i <= 13; i++) {
            x.battery(100 + i);
            x.starter(true);
            x.battery(100);
            x.starter(false);
            x.tick(1);
            for (int ago = 0; ago <= 13; ago++) {
                boolean isKept = ago < i && ago < 10;
                due("start(" + ago + ", 3) of " + i, x.start(ago, 3), isKept ? 2000 + i - ago : -6);
                due("start(" + ago + ", 0) of " + i, x.start(ago, 0), isKept ? DEAD : -6);
            }
        }
        due("all are counted", x.count(11), 13);
    }

    public static void main(String[] args) {
        begins();
        succeeds();
        starterStaysOnWithSuccess();
        hot();
        hotRatherThanSuccess();
        hung();
        hungCountsTicksWithoutFlame();
        stalledTicksAreOneBehindTheOther();
        dead();
        emptyBattery();
        batteryThatBecameMore();
        greatestHeat();
        wrongInputs();
        logOfTen();
        Due.end();
    }
}
