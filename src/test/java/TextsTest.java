/** Promises 9 and 17 to 19: run(), put(), wipe() and fault(). */
public final class TextsTest {
    private TextsTest() {
    }

    private static void due(String call, long got, long want) {
        Due.due(call, got, want);
    }

    private static void put() {
        JetStarts x = new JetStarts();
        due("one", x.put('c'), 1);
        due("eight", x.put(Due.packed(";s;f10;.")), 9);
        due("the order", x.fault(), 9);
        due("two", x.put(Due.packed("99")), 11);
        due("no fault", x.fault(), -6);
        due("the length", x.count(17), 11);
        due("33", x.put(33), 12);
        due("126", x.put(126), 13);
        due("no change", x.count(18), 0);
    }

    private static void putOfWrongNumbers() {
        JetStarts x = new JetStarts();
        x.put('c');
        long[] wrong = {0, 32, 127, 128, 255, 31, 1, 10, 'c' << 8, Due.packed("cc") << 8, 0x630063L, 0x6300000063L,
            0x0100000000000063L, 0x6300000000000000L, 0x8000000000000063L, -1, Long.MIN_VALUE, Long.MAX_VALUE,
            Due.packed("cc c"), Due.packed(" cc"), Due.packed("cc "), 0xe3_63636363636363L, 0x63636363_63636320L,
            0x1_00000063L, 0x7f63L, 0xff63L};
        for (long number : wrong) {
            due("put(" + number + ")", x.put(number), -2);
            due("the length", x.count(17), 1);
        }
    }

    private static void putUpTo60() {
        JetStarts x = new JetStarts();
        Due.putAll(x, "c;c;c;c;c;c;c;c;c;c;c;c;c;c;c;c;c;c;c;c;c;c;c;c;c;c;c;c;c;c");
        due("the length", x.count(17), 59);
        due("61", x.put(Due.packed(";s")), -4);
        due("67", x.put(Due.packed(";s;s;s;s")), -4);
        due("a bad value first", x.put(Due.packed(";s ")), -2);
        due("the length", x.count(17), 59);
        due("60", x.put(';'), 60);
        due("61", x.put('s'), -4);
        due("ends too early", x.fault(), 60);
        due("wipe()", x.wipe(), 60);
        Due.putAll(x, "c;c;c;c;c;c;c;c;c;c;c;c;c;c;c;c;c;c;c;c;c;c;c;c;c;c;c;c;c;f5");
        due("no fault in 60", x.fault(), -6);
        due("run()", x.run(), 30);
        due("fuel", x.engine(2), 5);
    }

    private static void wipe() {
        JetStarts x = new JetStarts();
        due("an empty pad", x.wipe(), 0);
        Due.putAll(x, "f2;.1");
        due("wipe()", x.wipe(), 5);
        due("empty then", x.count(17), 0);
        due("empty then", x.fault(), 0);
        due("no change", x.count(18), 0);
        due("the next put begins anew", x.put('s'), 1);
        due("run()", x.run(), 1);
        due("engine(4)", x.engine(4), 1);
        due("engine(2)", x.engine(2), 0);
    }

    private static void faultOf(String text, int want) {
        JetStarts x = new JetStarts();
        Due.putAll(x, text);
        due("fault of " + text, x.fault(), want);
        due("again", x.fault(), want);
        int[] before = Due.everything(x);
        if (want != -6) {
            due("run of " + text, x.run(), -3);
            Due.same("run of " + text, Due.everything(x), before);
        } else {
            due("run of " + text, x.run() > 0 ? 1 : 0, 1);
            due("the pad is empty", x.count(17), 0);
        }
    }

    private static void faults() {
        String[] fine = {"c", "s", ".1", ".9", ".10", ".19", ".99", "c;s", "c;c;s;s", "f0;.5;f10", "f1;c", ".1;.2",
            ".12;s", "f10;f1;f0;.90"};
        for (String text : fine) {
            faultOf(text, -6);
        }
        for (int step = 0; step <= 10; step++) {
            faultOf("f" + step, -6);
        }
        String[] early = {"", "f", ".", "c;", "s;", "f1;", "f10;", "f0;", ".1;", ".10;", "c;f", "c;."};
        for (String text : early) {
            faultOf(text, text.length());
        }
        String[] first = {"x", "C", "S", "F", "0", "1", ";", ";c", "-", "!", "~", ",1", "/"};
        for (String text : first) {
            faultOf(text, 0);
        }
        String[] second = {"cc", "cs", "sc", "s1", "fc", "f;", "f.", "f-1", "f/", "f:", ".0", ".c", ".;", ".01", ".-",
            "./", ".:", "..", "ff", "c.", "s.1"};
        for (String text : second) {
            faultOf(text, 1);
        }
        String[] third = {"f11", "f12", "f19", "f00", "f01", "f05", "f20", "f91", "f1c", "f1.", "f0x", "f1/", "f2:",
            ".1c", ".9.", ".1/", ".1:", "c;;", "c;x", "c;1", "s;0"};
        for (String text : third) {
            faultOf(text, 2);
        }
        String[] fourth = {"f100", "f101", "f10c", ".100", ".999", ".10c", ".10.", "f10/", ".99:"};
        for (String text : fourth) {
            faultOf(text, 3);
        }
        faultOf("c;s;f7;.12;x", 11);
        faultOf("c;s;f7;.120;c;x", 10);
    }

    private static void run() {
        JetStarts x = new JetStarts();
        Due.putAll(x, "c;.12;s;f7;.1");
        due("run()", x.run(), 5);
        due("as one by one: speed", x.engine(0), 155);
        due("pool", x.engine(3), 5);
        due("flame", x.engine(6), 1);
        due("starter", x.engine(5), 1);
        due("spark", x.engine(4), 1);
        due("ticks", x.count(7), 13);
        due("the pad is empty", x.count(17), 0);
        due("one change", x.count(18), 1);
        due("an empty pad has a fault", x.run(), -3);
        Due.putAll(x, "c;s;f0;.5");
        due("run()", x.run(), 4);
        due("starter", x.engine(5), 0);
        due("spark", x.engine(4), 0);
        due("fuel", x.engine(2), 0);
        due("changes", x.count(18), 2);
        Due.putAll(x, "f10;.30");
        due("two digits", x.run(), 2);
        due("fuel", x.engine(2), 10);
        due("ticks", x.count(7), 48);
        due("undo()", x.undo(), 2);
        due("ticks", x.count(7), 18);
        due("the pad stays empty", x.count(17), 0);
    }

    private static void runPassesOver() {
        JetStarts x = new JetStarts();
        x.battery(0);
        x.put('c');
        due("no battery", x.run(), 0);
        due("the pad is empty", x.count(17), 0);
        due("a change all the same", x.count(18), 2);
        Due.putAll(x, "c;f3;c;s");
        due("two of four", x.run(), 2);
        due("fuel", x.engine(2), 3);
        due("spark", x.engine(4), 1);
        due("no start", x.engine(9), 0);
        x = new JetStarts();
        x.set(JetStarts.CRANK, 16);
        x.set(JetStarts.DRAG, 3);
        Due.putAll(x, "c;.93;c;c;.1;c");
        due("too fast for the starter", x.run(), 5);
        due("speed", x.engine(0), 485);
        due("on below 500", x.engine(5), 1);
    }

    public static void main(String[] args) {
        put();
        putOfWrongNumbers();
        putUpTo60();
        wipe();
        faults();
        run();
        runPassesOver();
        Due.end();
    }
}
