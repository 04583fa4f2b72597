/** Promises 10 and 12: engine() and count(). */
public final class NumbersTest {
    private NumbersTest() {
    }

    private static void due(String call, long got, long want) {
        Due.due(call, got, want);
    }

    private static void engineAre(String when, JetStarts x, int... wanted) {
        for (int what = 0; what < wanted.length; what++) {
            due(when + ": engine(" + what + ")", x.engine(what), wanted[what]);
        }
    }

    private static void countsAre(String when, JetStarts x, int... wanted) {
        for (int i = 0; i < wanted.length; i++) {
            due(when + ": count(" + (7 + i) + ")", x.count(7 + i), wanted[i]);
        }
    }

    private static void engine() {
        JetStarts x = new JetStarts();
        x.fuel(7);
        x.starter(true);
        engineAre("begun", x, 0, 0, 7, 0, 0, 1, 0, 1000, 0, 1, 0);
        x.tick(12);
        engineAre("cranked", x, 134, 0, 7, 84, 0, 1, 0, 928, 0, 1, 0);
        x.starter(false);
        x.tick(2);
        engineAre("slower", x, 124, 0, 7, 98, 0, 0, 0, 928, 0, 1, 2);
        x.tick(1);
        engineAre("dead", x, 120, 0, 7, 100, 0, 0, 0, 928, 0, 1, 3);
        x.tick(1);
        engineAre("dead", x, 116, 0, 7, 100, 0, 0, 0, 928, 0, 0, 0);
        x.drain();
        x.spark(true);
        x.starter(true);
        // 116 + 14 less 5; 7 in the pool, but 116 is below LIGHT
        x.tick(1);
        engineAre("again", x, 125, 0, 7, 7, 1, 1, 0, 922, 0, 1, 0);
        // 4 of 14 leave the pool, 11 burn: 11 * 225 / 160 = 15; 154 less 6; 132 less 132 * 8 * 348 / 20000
        x.tick(1);
        engineAre("lit", x, 148, 114, 7, 10, 1, 1, 1, 916, 0, 1, 0);
    }

    private static void runs() {
        JetStarts x = new JetStarts();
        x.spark(true);
        x.fuel(7);
        x.starter(true);
        x.tick(38);
        due("not yet", x.engine(8), 0);
        x.tick(1);
        due("at 600", x.engine(8), 1);
        x.tick(60);
        x.fuel(0);
        x.tick(2);
        due("fast", x.engine(0) >= 600 ? 1 : 0, 1);
        due("without a flame", x.engine(6), 0);
        due("it does not run", x.engine(8), 0);
    }

    private static void count() {
        JetStarts x = new JetStarts();
        x.spark(true);
        x.fuel(7);
        x.starter(true);
        countsAre("begun", x, 0, 0, 0, 0, 0, 0, 0, 0, 0, 0, 0, 3);
        x.tick(11);
        countsAre("cranked", x, 11, 0, 0, 0, 0, 0, 0, 0, 0, 0, 0, 4);
        x.put(Due.packed("c;s"));
        x.tick(28);
        int greatest = x.start(0, 2);
        countsAre("runs", x, 39, 1, 0, 0, 0, 0, 1, 1, 0, greatest, 3, 5);
        x.tick(10);
        countsAre("runs", x, 49, 1, 0, 0, 0, 0, 11, 1, 0, greatest, 3, 6);
        due("it is cooler now", x.engine(1) < greatest ? 1 : 0, 1);
        x.fuel(0);
        x.tick(5);
        countsAre("out", x, 54, 1, 0, 0, 0, 0, 11, 1, 1, greatest, 3, 6);
        x.wipe();
        due("the pad is empty", x.count(17), 0);
    }

    private static void countOfSettings() {
        JetStarts x = new JetStarts();
        int[] values = {31, 17, 23, 29, 1234, 321, 37};
        for (int i = 0; i < 7; i++) {
            x.set(i, values[i]);
        }
        for (int i = 0; i < 7; i++) {
            due("count(" + i + ")", x.count(i), values[i]);
        }
    }

    private static void countOfEndings() {
        JetStarts x = new JetStarts();
        x.fuel(10);
        x.tick(12);
        x.starter(true);
        x.tick(12);
        x.spark(true);
        x.set(JetStarts.LIMIT, 300);
        x.tick(2);
        due("hot starts", x.count(9), 1);
        due("hot ticks", x.count(12), 2);
        x.set(JetStarts.LIMIT, 1500);
        x.set(JetStarts.HANG, 2);
        x.set(JetStarts.DRAG, 20);
        x.starter(true);
        x.fuel(0);
        x.tick(30);
        due("hung starts", x.count(10), 1);
        due("hot ticks", x.count(12), 2);
        due("went out", x.count(15), 1);
        x.starter(true);
        x.starter(false);
        x.tick(1);
        due("dead starts", x.count(11), 1);
        due("succeeded", x.count(8), 0);
        due("the greatest heat", x.count(16), x.start(2, 2) > x.start(1, 2) ? x.start(2, 2) : x.start(1, 2));
    }

    private static void wrongInputs() {
        JetStarts x = new JetStarts();
        int[] bad = {-1, Integer.MIN_VALUE, Integer.MAX_VALUE};
        for (int what : bad) {
            due("engine(" + what + ")", x.engine(what), -2);
            due("count(" + what + ")", x.count(what), -2);
        }
        due("engine(11)", x.engine(11), -2);
        due("count(19)", x.count(19), -2);
        due("no change", x.count(18), 0);
    }

    public static void main(String[] args) {
        engine();
        runs();
        count();
        countOfSettings();
        countOfEndings();
        wrongInputs();
        Due.end();
    }
}
