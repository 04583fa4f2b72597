import java.util.ArrayList;
import java.util.List;

/**
 * "A call that returns an error changes nothing": of each method that can refuse, and for each reason. An object that
 * refused a call has to answer like its twin that never got the call, whatever comes behind.
 */
public final class RefusalsTest {
    private static final int WAYS = 7;
    /** Without slots, changes or starts; and with changes, starts and deeds, by which slots are saved. */
    private static final int BARE = 0, NO_SLOTS = 1, SLOT_0 = 2, SLOT_1 = 3, BOTH_SLOTS = 4;

    private interface Call {
        long on(JetStarts x);
    }

    private RefusalsTest() {
    }

    /**
     * If it is not bare: slots with a state each, six different changes to undo, a start in the log, another one under
     * way that has been hot, a pool, and deeds on the pad.
     */
    private static JetStarts made(int base) {
        JetStarts x = new JetStarts();
        if (base == BARE) {
            return x;
        }
        x.starter(true);
        x.starter(false);
        x.tick(1);
        if (base == SLOT_0 || base == BOTH_SLOTS) {
            x.save(0);
        }
        Engines.crankTo(x, 170);
        x.spark(true);
        x.fuel(6);
        x.tick(3);
        if (base == SLOT_1 || base == BOTH_SLOTS) {
            x.save(1);
        }
        x.fuel(0);
        x.tick(8);
        Due.due("made: the flame is out", x.engine(6), 0);
        Due.due("made: under way", x.engine(9), 1);
        x.spark(false);
        x.starter(false);
        x.set(JetStarts.HANG, 40);
        x.battery(777);
        x.fuel(3);
        x.tick(2);
        Due.putAll(x, "c;.3;s;f2;.9");
        Due.due("made: heat", x.engine(1) > 0 ? 1 : 0, 1);
        Due.due("made: stalled", x.engine(10) > 0 ? 1 : 0, 1);
        Due.due("made: changes", x.count(18), 6);
        return x;
    }

    private static void addAll(List<Integer> answers, JetStarts x) {
        for (int answer : Due.everything(x)) {
            answers.add(answer);
        }
    }

    private static void askWhatIf(List<Integer> answers, JetStarts x) {
        answers.add(x.fault());
        answers.add(x.untilRunning());
        answers.add(x.bestFuel());
        answers.add(x.leastBattery());
        for (int what = 0; what <= 4; what++) {
            answers.add(x.ifTicked(7, what));
        }
    }

    private static void goOn(List<Integer> answers, JetStarts x) {
        addAll(answers, x);
        answers.add(x.tick(99));
        addAll(answers, x);
        answers.add(x.starter(true));
        answers.add(x.starter(false));
        answers.add(x.tick(99));
        addAll(answers, x);
    }

    /** All that can be seen of an object by one of the ways to go on with it. */
    private static List<Integer> seen(JetStarts x, int way) {
        List<Integer> answers = new ArrayList<>();
        addAll(answers, x);
        switch (way) {
            case 0:
                askWhatIf(answers, x);
                break;
            case 1:
                for (int i = 0; i < 7; i++) {
                    answers.add(x.undo());
                    addAll(answers, x);
                }
                break;
            case 2:
                answers.add(x.run());
                break;
            case 3:
                answers.add(x.restore(0));
                break;
            case 4:
                answers.add(x.restore(1));
                break;
            case 5:
                answers.add(x.undo());
                break;
            default:
                answers.add(x.put(Due.packed(";c")));
                answers.add(x.fault());
                answers.add(x.run());
        }
        goOn(answers, x);
        return answers;
    }

    private static void isLikeTwin(String name, int base, Call prepare, Call call, long want) {
        for (int way = 0; way < WAYS; way++) {
            JetStarts x = made(base);
            JetStarts twin = made(base);
            prepare.on(x);
            prepare.on(twin);
            Due.due(name, call.on(x), want);
            boolean isSame = seen(x, way).equals(seen(twin, way));
            Due.due(name + ": nothing changes, seen by way " + way, isSame ? 1 : 0, 1);
        }
    }

    private static void refused(String name, Call prepare, Call call, int want) {
        isLikeTwin(name, BARE, prepare, call, want);
        isLikeTwin(name, NO_SLOTS, prepare, call, want);
        isLikeTwin(name, BOTH_SLOTS, prepare, call, want);
    }

    private static void refused(String name, Call call, int want) {
        refused(name, x -> 0, call, want);
    }

    private static void set() {
        int[][] ranges = {{1, 40}, {1, 20}, {1, 40}, {1, 40}, {300, 1500}, {20, 400}, {2, 40}};
        for (int i = 0; i < 7; i++) {
            int setting = i;
            refused("set(" + i + ", below)", x -> x.set(setting, ranges[setting][0] - 1), -2);
            refused("set(" + i + ", above)", x -> x.set(setting, ranges[setting][1] + 1), -2);
        }
        refused("set(-1, 30)", x -> x.set(-1, 30), -2);
        refused("set(7, 30)", x -> x.set(7, 30), -2);
    }

    private static long turnTo(JetStarts x, int speed) {
        Engines.crankTo(x, speed);
        return x.starter(false);
    }

    private static void starter() {
        refused("starter(false), off", x -> x.starter(false), -5);
        refused("starter(true), on", x -> x.starter(true), x -> x.starter(true), -5);
        refused("starter(true), battery 0", x -> x.battery(0), x -> x.starter(true), -5);
        refused("starter(true), speed 500", x -> turnTo(x, 500), x -> x.starter(true), -5);
        refused("starter(true), speed 501", x -> turnTo(x, 501), x -> x.starter(true), -5);
    }

    private static long light(JetStarts x) {
        Engines.crankTo(x, 400);
        x.spark(true);
        x.fuel(5);
        x.tick(1);
        Due.due("a flame", x.engine(6), 1);
        return 0;
    }

    private static void sparkFuelAndDrain() {
        refused("spark(false), off", x -> x.spark(false), -5);
        refused("spark(true), on", x -> x.spark(true), x -> x.spark(true), -5);
        refused("fuel(-1)", x -> x.fuel(-1), -2);
        refused("fuel(11)", x -> x.fuel(11), -2);
        refused("drain(), a flame", RefusalsTest::light, x -> x.drain(), -5);
    }

    /** So many ticks need more than the 512 calls that the document asks for; nothing changes all the same. */
    private static long tickToTheEnd(JetStarts x) {
        for (int i = 0; i < 1010 && x.count(7) <= 99895 - 99; i++) {
            x.tick(99);
        }
        x.tick(99895 - x.count(7));
        x.set(JetStarts.LIMIT, 1500);
        light(x);
        Due.due("less than 99 are left", x.count(7) > 99999 - 99 ? 1 : 0, 1);
        Due.due("under way", x.engine(9), 1);
        return 0;
    }

    private static void batteryAndTick() {
        refused("battery(-1)", x -> x.battery(-1), -2);
        refused("battery(1001)", x -> x.battery(1001), -2);
        refused("tick(0)", x -> x.tick(0), -2);
        refused("tick(-1)", x -> x.tick(-1), -2);
        refused("tick(100)", x -> x.tick(100), -2);
        refused("tick(99), too many", RefusalsTest::tickToTheEnd, x -> x.tick(99), -4);
    }

    private static long put(JetStarts x, String text) {
        x.wipe();
        Due.putAll(x, text);
        return 0;
    }

    private static void run() {
        refused("run(), empty", x -> x.wipe(), x -> x.run(), -3);
        String[] wrong = {"x", "f11", "c;.0", "s;", "c;s;f3;.5;q", "f"};
        for (String text : wrong) {
            refused("run() of " + text, x -> put(x, text), x -> x.run(), -3);
        }
    }

    private static void questions() {
        int[][] wrong = {{-1, 11}, {-1, 19}, {-1, 4}, {-1, 5}};
        for (int i = 0; i < 2; i++) {
            int end = i;
            refused("engine() of " + wrong[0][i], x -> x.engine(wrong[0][end]), -2);
            refused("count() of " + wrong[1][i], x -> x.count(wrong[1][end]), -2);
            refused("start() of 0, " + wrong[2][i], x -> x.start(0, wrong[2][end]), -2);
            refused("start() of 9, " + wrong[2][i], x -> x.start(9, wrong[2][end]), -2);
            refused("ifTicked() of 3, " + wrong[3][i], x -> x.ifTicked(3, wrong[3][end]), -2);
        }
        refused("start(-1, 0)", x -> x.start(-1, 0), -2);
        refused("ifTicked(0, 0)", x -> x.ifTicked(0, 0), -2);
        refused("ifTicked(301, 0)", x -> x.ifTicked(301, 0), -2);
    }

    private static void texts() {
        String sixty = "c;c;c;c;c;c;c;c;c;c;c;c;c;c;c;c;c;c;c;c;c;c;c;c;c;c;c;c;c;f5";
        refused("put(0)", x -> x.put(0), -2);
        refused("put(32)", x -> x.put(32), -2);
        refused("put(127)", x -> x.put(127), -2);
        refused("put() of a gap", x -> x.put(0x630063L), -2);
        refused("put() of a 61st", x -> put(x, sixty), x -> x.put('c'), -4);
        refused("put() of a 61st, 59 before", x -> put(x, sixty.substring(0, 59)), x -> x.put(Due.packed("5;")), -4);
        refused("put() of 8 behind 53", x -> put(x, sixty.substring(0, 53)), x -> x.put(Due.packed("c;c;c;f5")), -4);
        refused("put() of a wrong 61st", x -> put(x, sixty), x -> x.put(' '), -2);
    }

    private static long undoAll(JetStarts x) {
        for (int left = x.count(18); left > 0; left--) {
            x.undo();
        }
        return 0;
    }

    private static void undoAndSlots() {
        refused("undo(), none", RefusalsTest::undoAll, x -> x.undo(), -5);
        for (int slot : new int[] {-1, 2}) {
            refused("save(" + slot + ")", x -> x.save(slot), -2);
            refused("restore(" + slot + ")", x -> x.restore(slot), -2);
        }
        for (int base = BARE; base <= SLOT_1; base++) {
            if (base != SLOT_0) {
                isLikeTwin("restore(0), empty", base, x -> x.fuel(4), x -> x.restore(0), -5);
            }
            if (base != SLOT_1) {
                isLikeTwin("restore(1), empty", base, x -> x.fuel(4), x -> x.restore(1), -5);
            }
        }
    }

    /** Questions that are answered, and errors of other kinds: NONE is an answer, and changes nothing either. */
    private static void answers() {
        isLikeTwin("start(9, 3): NONE", BOTH_SLOTS, x -> 0, x -> x.start(9, 3), -6);
        isLikeTwin("fault(): NONE", BOTH_SLOTS, x -> 0, x -> x.fault(), -6);
        isLikeTwin("untilRunning(): NONE", BOTH_SLOTS, x -> 0, x -> x.untilRunning(), -6);
        isLikeTwin("bestFuel(): NONE", BOTH_SLOTS, x -> 0, x -> x.bestFuel(), -6);
        isLikeTwin("leastBattery(): NONE", BOTH_SLOTS, x -> 0, x -> x.leastBattery(), -6);
        Call flame = RefusalsTest::light;
        isLikeTwin("untilRunning()", BOTH_SLOTS, flame, x -> x.untilRunning() > 0 ? 1 : 0, 1);
        isLikeTwin("bestFuel()", BOTH_SLOTS, flame, x -> x.bestFuel() >= 0 ? 1 : 0, 1);
        isLikeTwin("leastBattery()", BOTH_SLOTS, flame, x -> x.leastBattery() >= 0 ? 1 : 0, 1);
        for (int i = 0; i <= 4; i++) {
            int what = i;
            isLikeTwin("ifTicked(300, " + i + ")", BOTH_SLOTS, flame, x -> x.ifTicked(300, what) >= 0 ? 1 : 0, 1);
        }
    }

    public static void main(String[] args) {
        set();
        starter();
        sparkFuelAndDrain();
        batteryAndTick();
        run();
        questions();
        texts();
        undoAndSlots();
        answers();
        Due.end();
    }
}
