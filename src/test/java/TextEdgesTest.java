/** "Texts" of the terms, and promises 9 and 17 to 19: each edge that they name. */
public final class TextEdgesTest {
    private TextEdgesTest() {
    }

    private static void due(String call, long got, long want) {
        Due.due(call, got, want);
    }

    private static JetStarts written(String text) {
        JetStarts x = new JetStarts();
        Due.putAll(x, text);
        return x;
    }

    // ---- what can stand at a place

    /** Each of the 94 characters behind this beginning: those of fine can stand there, the others are the fault. */
    private static void canStandBehind(String beginning, String fine) {
        for (char sign = 33; sign <= 126; sign++) {
            JetStarts x = written(beginning + sign);
            boolean canStand = fine.indexOf(sign) >= 0;
            boolean isFault = x.fault() == beginning.length();
            due("fault of " + beginning + sign + " at its end", isFault ? 1 : 0, canStand ? 0 : 1);
            if (canStand) {
                boolean isWhole = sign != ';' && sign != 'f' && sign != '.';
                due("fault of " + beginning + sign, x.fault(), isWhole ? -6 : beginning.length() + 1);
            } else {
                due("run of " + beginning + sign, x.run(), -3);
            }
        }
    }

    private static void places() {
        String digits = "0123456789";
        String[] before = {"", "c;", "s;f10;.99;c;"};
        for (String head : before) {
            canStandBehind(head, "csf.");
            canStandBehind(head + "c", ";");
            canStandBehind(head + "s", ";");
            canStandBehind(head + "f", digits);
            canStandBehind(head + "f0", ";");
            canStandBehind(head + "f1", ";0");
            canStandBehind(head + "f2", ";");
            canStandBehind(head + "f9", ";");
            canStandBehind(head + "f10", ";");
            canStandBehind(head + ".", "123456789");
            canStandBehind(head + ".1", ";" + digits);
            canStandBehind(head + ".9", ";" + digits);
            canStandBehind(head + ".10", ";");
            canStandBehind(head + ".99", ";");
        }
    }

    /** "If there is none and the text ends too early (also if it is empty), it is the length of the text." */
    private static void endsTooEarly() {
        String[] early = {"", "f", ".", "c;", "s;", "f9;", "f10;", ".9;", ".99;", "c;f", "f10;.", "c;s;f7;.12;"};
        for (String text : early) {
            JetStarts x = written(text);
            due("fault of " + text, x.fault(), text.length());
            due("run of " + text, x.run(), -3);
            due("the pad stays", x.count(17), text.length());
        }
    }

    /** "The first character": of several that cannot stand, and ahead of an end that is too early. */
    private static void firstOfSeveral() {
        due("two", written("c;x;y").fault(), 2);
        due("two, and an early end", written("cc;f").fault(), 1);
        due("the first one", written("?!;").fault(), 0);
        due("a number that is too great, then more", written("f11;.100").fault(), 2);
        due("a leading zero, then more", written(".01;f11").fault(), 1);
    }

    // ---- numbers

    /** "A number is 0 to 10, ticks are 1 to 99": each is done as fuel() and tick() are. */
    private static void numbers() {
        for (int step = 0; step <= 10; step++) {
            JetStarts x = written("f" + step);
            x.fuel(step == 3 ? 4 : 3);
            due("run of f" + step, x.run(), 1);
            due("fuel step", x.engine(2), step);
        }
        for (int ticks = 1; ticks <= 99; ticks++) {
            JetStarts x = written("." + ticks);
            due("run of ." + ticks, x.run(), 1);
            due("ticks", x.count(7), ticks);
        }
        due(".0", written(".0").run(), -3);
        due(".100", written(".100").run(), -3);
        due("f11", written("f11").run(), -3);
    }

    // ---- put

    /** "1 to 8 characters", the last one in the lowest 8 bits. */
    private static void oneToEight() {
        String[] texts = {"s", "f7", "c;s", "f3;s", "f10;c", "c;f4;s", "f10;.21", "c;s;f5;s"};
        for (int i = 0; i < 8; i++) {
            JetStarts x = new JetStarts();
            due("put of " + texts[i], x.put(Due.packed(texts[i])), i + 1);
            due("the length", x.count(17), i + 1);
            due("no fault", x.fault(), -6);
            due("run of " + texts[i], x.run(), new int[] {1, 1, 2, 2, 2, 3, 2, 4}[i]);
        }
        JetStarts x = new JetStarts();
        x.put(Due.packed("f10;.21"));
        x.run();
        due("fuel step", x.engine(2), 10);
        due("ticks", x.count(7), 21);
        x = new JetStarts();
        due("no character", x.put(0), -2);
    }

    /** "A code is not 33 to 126", at each of the eight places. */
    private static void codesAtEachPlace() {
        int[][] codeAndFine = {{1, 0}, {31, 0}, {32, 0}, {33, 1}, {34, 1}, {125, 1}, {126, 1}, {127, 0}, {128, 0},
            {161, 0}, {254, 0}, {255, 0}};
        for (int length = 1; length <= 8; length++) {
            for (int place = 0; place < length; place++) {
                for (int[] row : codeAndFine) {
                    long number = 0;
                    for (int at = length - 1; at >= 0; at--) {
                        number = number << 8 | (at == place ? row[0] : 'c');
                    }
                    JetStarts x = new JetStarts();
                    String call = "put of " + row[0] + " at place " + place + " of " + length;
                    due(call, x.put(number), row[1] == 1 ? length : -2);
                    due("the length behind " + call, x.count(17), row[1] == 1 ? length : 0);
                }
            }
        }
    }

    /** "8 bits that are 0 mean that there are no more characters, and everything above them has to be 0, too." */
    private static void nothingAboveZeroBits() {
        for (int gap = 0; gap < 8; gap++) {
            long below = 0;
            for (int at = 0; at < gap; at++) {
                below = below << 8 | 's';
            }
            due("nothing above " + gap, new JetStarts().put(below), gap == 0 ? -2 : gap);
            for (int bit = 8 * (gap + 1); bit < 64; bit++) {
                JetStarts x = new JetStarts();
                due("bit " + bit + " above a gap at " + gap, x.put(below | 1L << bit), -2);
                due("the length", x.count(17), 0);
            }
            for (int at = gap + 1; at < 8; at++) {
                due("a character above a gap at " + gap, new JetStarts().put(below | (long) 'c' << 8 * at), -2);
            }
        }
    }

    /** "The pad would be longer than 60": from each length near it, each number of characters. */
    private static void padOf60() {
        String sixty = "c;c;c;c;c;c;c;c;c;c;c;c;c;c;c;c;c;c;c;c;c;c;c;c;c;c;c;c;c;f5";
        for (int length = 50; length <= 60; length++) {
            for (int added = 1; added <= 8; added++) {
                JetStarts x = written(sixty.substring(0, length));
                boolean isFine = length + added <= 60;
                int answer = x.put(Due.packed("ssssssss".substring(0, added)));
                due("put of " + added + " behind " + length, answer, isFine ? length + added : -4);
                due("the length", x.count(17), isFine ? length + added : length);
                due("a wrong one is refused as such", x.put(Due.packed("sssssss".substring(0, added - 1)) << 8 | 32), -2);
            }
        }
        JetStarts x = written(sixty);
        due("the whole of 60", x.fault(), -6);
        due("all deeds", x.run(), 30);
        due("the last one, too", x.engine(2), 5);
        due("there is room again", x.put('c'), 1);
    }

    // ---- run, wipe

    /** "One that is not possible is passed over": the starter at a speed of 500, and with a battery of 0. */
    private static void passesOver() {
        for (int speed = 498; speed <= 502; speed++) {
            JetStarts x = Engines.coasting(speed);
            Due.putAll(x, "f4;c;s");
            due("run at " + speed, x.run(), speed < 500 ? 3 : 2);
            due("starter", x.engine(5), speed < 500 ? 1 : 0);
            due("fuel step", x.engine(2), 4);
            due("spark", x.engine(4), 0);
            due("the pad is empty", x.count(17), 0);
        }
        for (int charge = 0; charge <= 2; charge++) {
            JetStarts x = written("c;c;s");
            x.battery(charge);
            due("run with " + charge, x.run(), charge > 0 ? 3 : 1);
        }
        JetStarts x = written("c");
        x.battery(0);
        int changes = x.count(18);
        due("nothing is possible", x.run(), 0);
        due("a change all the same", x.count(18), changes + 1);
        due("the pad is empty", x.count(17), 0);
        due("undo()", x.undo(), changes);
        due("the pad stays empty", x.count(17), 0);
    }

    /** "The starter is turned the other way (on or off), the spark likewise". */
    private static void theOtherWay() {
        JetStarts x = written("c;s");
        x.run();
        due("on", x.engine(5) + x.engine(4), 2);
        Due.putAll(x, "c;s");
        x.run();
        due("off", x.engine(5) + x.engine(4), 0);
        Due.putAll(x, "s;s;s;c;c;c");
        due("each of them", x.run(), 6);
        due("on", x.engine(5) + x.engine(4), 2);
    }

    /** "Empties the pad, and returns the length that it had", from 0 to 60. */
    private static void wipes() {
        String sixty = "c;c;c;c;c;c;c;c;c;c;c;c;c;c;c;c;c;c;c;c;c;c;c;c;c;c;c;c;c;f5";
        for (int length : new int[] {0, 1, 8, 59, 60}) {
            JetStarts x = written(sixty.substring(0, length));
            due("wipe()", x.wipe(), length);
            due("empty", x.count(17), 0);
            due("a fault at its end", x.fault(), 0);
            due("wipe() again", x.wipe(), 0);
            due("run()", x.run(), -3);
        }
    }

    public static void main(String[] args) {
        places();
        endsTooEarly();
        firstOfSeveral();
        numbers();
        oneToEight();
        codesAtEachPlace();
        nothingAboveZeroBits();
        padOf60();
        passesOver();
        theOtherWay();
        wipes();
        Due.end();
    }
}
