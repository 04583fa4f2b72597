/** Promises 20 to 22: undo(), save() and restore(). */
public final class HistoryTest {
    private HistoryTest() {
    }

    private static void due(String call, long got, long want) {
        Due.due(call, got, want);
    }

    /** All but the length of the pad and of the history. */
    private static int[] state(JetStarts x) {
        int[] all = Due.everything(x);
        all[11 + 17] = 0;
        all[11 + 18] = 0;
        return all;
    }

    /** A start that ended, one that goes on, a flame, heat and fuel. */
    private static JetStarts used() {
        JetStarts x = new JetStarts();
        x.starter(true);
        x.starter(false);
        x.tick(1);
        x.spark(true);
        x.fuel(8);
        x.starter(true);
        x.set(JetStarts.HANG, 9);
        x.tick(20);
        return x;
    }

    private static void change(JetStarts x, int kind) {
        switch (kind) {
            case 0: due("set()", x.set(JetStarts.LIGHT, 222), 120); break;
            case 1: due("starter()", x.starter(false) >= 0 ? 1 : 0, 1); break;
            case 2: due("spark()", x.spark(false) >= 0 ? 1 : 0, 1); break;
            case 3: due("fuel()", x.fuel(1), 8); break;
            case 4: due("battery()", x.battery(4) >= 0 ? 1 : 0, 1); break;
            case 5: due("tick()", x.tick(99) >= 0 ? 1 : 0, 1); break;
            case 6:
                Due.putAll(x, "c;s;f3;.50");
                due("run()", x.run(), 4);
                break;
            default: due("restore()", x.restore(0), 0);
        }
    }

    private static void undoOfEachChange() {
        for (int kind = 0; kind < 8; kind++) {
            JetStarts x = new JetStarts();
            x.save(0);
            x = usedFrom(x);
            int[] before = state(x);
            due("changes before", x.count(18), 6);
            change(x, kind);
            due("changes", x.count(18), 6);
            due("kind " + kind + " changes something", java.util.Arrays.equals(before, state(x)) ? 1 : 0, 0);
            due("undo of kind " + kind, x.undo(), 5);
            Due.same("undo of kind " + kind, state(x), before);
        }
        JetStarts x = new JetStarts();
        x.fuel(5);
        x.tick(3);
        due("drain()", x.drain(), 15);
        due("undo()", x.undo(), 2);
        due("the pool is back", x.engine(3), 15);
    }

    private static JetStarts usedFrom(JetStarts x) {
        x.starter(true);
        x.starter(false);
        x.tick(1);
        x.spark(true);
        x.fuel(8);
        x.starter(true);
        x.tick(20);
        return x;
    }

    private static void undoStepByStep() {
        JetStarts x = new JetStarts();
        due("none", x.undo(), -5);
        for (int i = 1; i <= 9; i++) {
            x.battery(i);
            due("changes", x.count(18), Math.min(i, 6));
        }
        for (int i = 8; i >= 3; i--) {
            due("undo()", x.undo(), i - 3);
            due("battery", x.engine(7), i);
        }
        due("the older ones are dropped", x.undo(), -5);
        due("battery", x.engine(7), 3);
        x.battery(50);
        x.battery(60);
        due("undo()", x.undo(), 1);
        x.battery(70);
        due("undo()", x.undo(), 1);
        due("battery", x.engine(7), 50);
        due("undo()", x.undo(), 0);
        due("battery", x.engine(7), 3);
    }

    private static void whatIsRecorded() {
        JetStarts x = new JetStarts();
        x.set(JetStarts.CRANK, 0);
        x.starter(false);
        x.spark(false);
        x.fuel(11);
        x.battery(-1);
        x.tick(0);
        x.run();
        x.restore(0);
        x.restore(5);
        x.put('c');
        x.wipe();
        x.fault();
        x.save(0);
        x.untilRunning();
        x.bestFuel();
        x.leastBattery();
        x.ifTicked(9, 0);
        due("errors, questions, texts and saving are not", x.count(18), 0);
        x.set(JetStarts.CRANK, 14);
        due("set to what it is", x.count(18), 1);
        x.fuel(0);
        due("fuel as it is", x.count(18), 2);
        x.drain();
        due("drained, though empty", x.count(18), 3);
        x.battery(1000);
        due("battery as it is", x.count(18), 4);
        x.restore(0);
        due("restored as it is", x.count(18), 5);
        due("undo is no change", x.undo(), 4);
        due("undo is no change", x.count(18), 4);
    }

    private static void undoLeavesPadAndSlots() {
        JetStarts x = new JetStarts();
        x.fuel(3);
        Due.putAll(x, "f7");
        x.save(0);
        due("undo()", x.undo(), 0);
        due("the pad", x.count(17), 2);
        due("the slot", x.restore(0), 0);
        due("what it holds", x.engine(2), 3);
        due("undo of restore", x.undo(), 0);
        due("fuel", x.engine(2), 0);
        due("the slot keeps it", x.restore(0), 0);
        due("what it holds", x.engine(2), 3);
        due("the pad", x.run(), 1);
        due("fuel", x.engine(2), 7);
        due("undo of run", x.undo(), 1);
        due("the pad stays empty", x.count(17), 0);
    }

    private static void saving() {
        JetStarts x = used();
        int[] saved = state(x);
        due("save(1)", x.save(1), 21);
        due("no change", x.count(18), 6);
        x.tick(99);
        x.set(JetStarts.HANG, 30);
        x.starter(true);
        x.starter(false);
        x.tick(60);
        Due.putAll(x, "c;.5");
        due("the other slot", x.restore(0), -5);
        due("restore(1)", x.restore(1), 21);
        Due.same("restore(1)", state(x), saved);
        due("the pad stays", x.count(17), 4);
        due("a change", x.count(18), 6);
        x.tick(30);
        due("the slot keeps it", x.restore(1), 21);
        Due.same("restore(1)", state(x), saved);
        x.tick(30);
        due("save(0)", x.save(0), 51);
        due("slot 1", x.restore(1), 21);
        due("slot 0", x.restore(0), 51);
        due("overwritten", x.save(1), 51);
        due("slot 1", x.restore(1), 51);
    }

    /** The start under way goes on from what was saved. */
    private static void whatFollows() {
        JetStarts x = used();
        JetStarts y = used();
        x.save(0);
        x.tick(50);
        x.restore(0);
        x.tick(40);
        y.tick(40);
        Due.same("behind restore()", state(x), state(y));
        x.undo();
        x.tick(40);
        Due.same("behind undo()", state(x), state(y));
    }

    private static void wrongInputs() {
        JetStarts x = used();
        int[] before = Due.everything(x);
        int[] bad = {-1, 2, Integer.MIN_VALUE, Integer.MAX_VALUE};
        for (int slot : bad) {
            due("save(" + slot + ")", x.save(slot), -2);
            due("restore(" + slot + ")", x.restore(slot), -2);
        }
        due("restore(0)", x.restore(0), -5);
        due("restore(1)", x.restore(1), -5);
        Due.same("wrong slots", Due.everything(x), before);
    }

    public static void main(String[] args) {
        undoOfEachChange();
        undoStepByStep();
        whatIsRecorded();
        undoLeavesPadAndSlots();
        saving();
        whatFollows();
        wrongInputs();
        Due.end();
    }
}
