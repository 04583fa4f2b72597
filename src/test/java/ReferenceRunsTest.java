import java.util.ArrayList;
import java.util.List;

/** Long runs of calls, made up by a fixed rule, whose answers are compared with those of Reference. */
public final class ReferenceRunsTest {
    private static final String[] DEEDS = {"c", "s", "f0", "f1", "f5", "f7", "f10", ".1", ".3", ".9", ".12", ".40", ".99"};
    private static final String SIGNS = "csf.;0123456789x!~";

    private long seed;
    private final JetStarts x = new JetStarts();
    private final Reference y = new Reference();
    private final List<String> calls = new ArrayList<>();

    private ReferenceRunsTest(long seed) {
        this.seed = seed;
    }

    private int below(int bound) {
        seed = seed * 6364136223846793005L + 1442695040888963407L;
        return (int) ((seed >>> 33) % bound);
    }

    /** Mostly within the range, at times at its edges or just outside of it. */
    private int around(int least, int most) {
        switch (below(8)) {
            case 0: return least - below(3);
            case 1: return most + below(3);
            default: return least + below(most - least + 1);
        }
    }

    private boolean isSame(String call, int got, int want) {
        calls.add(call + " " + got);
        Due.due(call, got, want);
        return got == want;
    }

    private boolean set() {
        int[][] ranges = {{1, 40}, {1, 20}, {1, 40}, {1, 40}, {300, 1500}, {20, 400}, {2, 40}};
        int setting = around(0, 6);
        int[] range = ranges[Math.floorMod(setting, 7)];
        int value = around(range[0], range[1]);
        return isSame("set(" + setting + ", " + value + ")", x.set(setting, value), y.set(setting, value));
    }

    private boolean putSome() {
        StringBuilder text = new StringBuilder();
        if (below(4) > 0) {
            if (x.count(17) > 0) {
                text.append(';');
            }
            text.append(DEEDS[below(DEEDS.length)]);
            if (text.length() < 6) {
                text.append(';').append(DEEDS[below(7)]);
            }
        } else {
            for (int i = 1 + below(8); i > 0; i--) {
                text.append(SIGNS.charAt(below(SIGNS.length())));
            }
        }
        long number = Due.packed(text.toString());
        if (below(20) == 0) {
            number ^= 0xffL << 8 * below(8);
        }
        return isSame("put(" + number + ")", x.put(number), y.put(number));
    }

    private boolean change() {
        boolean isOn = below(4) > 0;
        int number;
        switch (below(13)) {
            case 0: return set();
            case 1:
            case 2: return isSame("starter(" + isOn + ")", x.starter(isOn), y.starter(isOn));
            case 3: return isSame("spark(" + isOn + ")", x.spark(isOn), y.spark(isOn));
            case 4: number = around(0, 10); return isSame("fuel(" + number + ")", x.fuel(number), y.fuel(number));
            case 5: return isSame("drain()", x.drain(), y.drain());
            case 6:
                number = around(0, 1000);
                return isSame("battery(" + number + ")", x.battery(number), y.battery(number));
            case 7:
            case 8: number = around(1, 15); return isSame("tick(" + number + ")", x.tick(number), y.tick(number));
            case 9: number = around(1, 99); return isSame("tick(" + number + ")", x.tick(number), y.tick(number));
            case 10: return isSame("undo()", x.undo(), y.undo());
            case 11: number = around(0, 1); return isSame("restore(" + number + ")", x.restore(number), y.restore(number));
            default: number = around(0, 1); return isSame("save(" + number + ")", x.save(number), y.save(number));
        }
    }

    private boolean question() {
        int what;
        int number;
        switch (below(12)) {
            case 0: return isSame("untilRunning()", x.untilRunning(), y.untilRunning());
            case 1: return isSame("bestFuel()", x.bestFuel(), y.bestFuel());
            case 2: return isSame("leastBattery()", x.leastBattery(), y.leastBattery());
            case 3:
            case 4:
                number = around(1, 300);
                what = around(0, 4);
                return isSame("ifTicked(" + number + ", " + what + ")", x.ifTicked(number, what), y.ifTicked(number, what));
            case 5:
            case 6: what = around(0, 10); return isSame("engine(" + what + ")", x.engine(what), y.engine(what));
            case 7:
            case 8: what = around(0, 18); return isSame("count(" + what + ")", x.count(what), y.count(what));
            default:
                number = around(0, below(2) == 0 ? 1 : 10);
                what = around(0, 3);
                return isSame("start(" + number + ", " + what + ")", x.start(number, what), y.start(number, what));
        }
    }

    private boolean text() {
        switch (below(7)) {
            case 0: return isSame("wipe()", x.wipe(), y.wipe());
            case 1:
            case 2: return isSame("fault()", x.fault(), y.fault());
            case 3: return isSame("run()", x.run(), y.run());
            default: return putSome();
        }
    }

    private boolean one() {
        int kind = below(10);
        return kind < 5 ? change() : kind < 8 ? question() : text();
    }

    private boolean isAllSame() {
        for (int what = 0; what <= 10; what++) {
            if (!isSame("engine(" + what + ")", x.engine(what), y.engine(what))) {
                return false;
            }
        }
        for (int what = 0; what <= 18; what++) {
            if (!isSame("count(" + what + ")", x.count(what), y.count(what))) {
                return false;
            }
        }
        for (int ago = 0; ago <= 10; ago++) {
            for (int what = 0; what <= 3; what++) {
                if (!isSame("start(" + ago + ", " + what + ")", x.start(ago, what), y.start(ago, what))) {
                    return false;
                }
            }
        }
        return true;
    }

    private boolean whole() {
        for (int i = 0; i < 512; i++) {
            if (!one()) {
                return false;
            }
        }
        return isAllSame();
    }

    public static void main(String[] args) {
        int runs = args.length > 0 ? Integer.parseInt(args[0]) : 60;
        for (int seed = 1; seed <= runs; seed++) {
            ReferenceRunsTest run = new ReferenceRunsTest(seed);
            if (!run.whole()) {
                System.out.println("run " + seed + ": " + run.calls);
                break;
            }
        }
        Due.end();
    }
}
