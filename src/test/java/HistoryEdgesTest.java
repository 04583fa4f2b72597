/** Promises 20 to 22, and the ranges of promises 2 to 12: each edge that they name. */
public final class HistoryEdgesTest {
    private HistoryEdgesTest() {
    }

    private static void due(String call, long got, long want) {
        Due.due(call, got, want);
    }

    // ---- undo

    /** "At most 6 states"; "when one more is recorded, the oldest one is dropped". */
    private static void sixStates() {
        for (int changes = 0; changes <= 14; changes++) {
            JetStarts x = new JetStarts();
            for (int i = 1; i <= changes; i++) {
                x.battery(i);
            }
            int kept = Math.min(changes, 6);
            due("kept of " + changes, x.count(18), kept);
            for (int left = kept - 1; left >= 0; left--) {
                due("undo() of " + changes, x.undo(), left);
                due("count(18)", x.count(18), left);
                int before = changes - kept + left;
                due("battery", x.engine(7), before == 0 ? 1000 : before);
            }
            due("no more of " + changes, x.undo(), -5);
            due("battery", x.engine(7), changes > 6 ? changes - 6 : 1000);
        }
    }

    /** The first of 7 changes is of another kind: as the seventh comes, it cannot be undone any more. */
    private static void seventhDropsTheOldest() {
        JetStarts x = new JetStarts();
        x.spark(true);
        for (int i = 0; i < 5; i++) {
            x.fuel(i);
        }
        for (int i = 5; i >= 0; i--) {
            due("six: undo()", x.undo(), i);
        }
        due("six: the spark", x.engine(4), 0);
        x.spark(true);
        for (int i = 0; i < 6; i++) {
            x.fuel(i);
        }
        for (int i = 5; i >= 0; i--) {
            due("seven: undo()", x.undo(), i);
        }
        due("seven: the spark", x.engine(4), 1);
        due("seven: no more", x.undo(), -5);
    }

    /** A flame that is new, one that goes out, a hot tick, the greatest heat, and an ending: each is undone. */
    private static void undoOfWhatTicksCount() {
        JetStarts x = Engines.pooled(200, 100);
        x.set(JetStarts.LIMIT, 300);
        x.set(JetStarts.HEAT, 20);
        int[] before = Due.everything(x);
        x.spark(true);
        x.tick(1);
        due("hot ticks", x.count(12), 1);
        due("hot starts", x.count(9), 1);
        due("new flames", x.count(14), 1);
        due("the greatest heat", x.count(16) > 300 ? 1 : 0, 1);
        due("the log", x.start(0, 0), 1);
        x.undo();
        x.undo();
        before[11 + 18] = x.count(18);
        Due.same("undo of a flame", Due.everything(x), before);
        x.drain();
        x.fuel(1);
        x.spark(true);
        x.set(JetStarts.LIMIT, 1500);
        x.tick(1);
        x.fuel(0);
        before = Due.everything(x);
        x.tick(1);
        due("went out", x.count(15), 1);
        x.undo();
        before[11 + 18] = x.count(18);
        Due.same("undo of a flame that went out", Due.everything(x), before);
        x = Engines.running();
        before = Due.everything(x);
        x.tick(1);
        due("ticks in which it ran", x.count(13), before[11 + 13] + 1);
        x.undo();
        before[11 + 18] = x.count(18);
        Due.same("undo of a tick in which it ran", Due.everything(x), before);
    }

    /** What belongs to the start under way, and is seen only when it ends. */
    private static void undoOfTheStartUnderWay() {
        JetStarts x = new JetStarts();
        x.battery(700);
        x.starter(true);
        x.save(0);
        x.tick(1);
        x.starter(false);
        x.tick(1);
        due("took", x.start(0, 3), 2006);
        x.battery(400);
        x.starter(true);
        x.undo();
        x.starter(true);
        x.starter(false);
        x.tick(1);
        due("took nothing", x.start(0, 3), 2000);
        x.restore(0);
        x.starter(false);
        x.tick(1);
        due("from the battery that was saved", x.start(0, 3), 2000);
        due("ticks", x.start(0, 1), 1);
        due("the log that was saved", x.start(1, 0), -6);
        x.restore(0);
        x.battery(100);
        x.starter(false);
        x.tick(1);
        due("from 700 to 100", x.start(0, 3), 2600);
    }

    private static JetStarts hotThenCool() {
        JetStarts x = Engines.pooled(200, 100);
        x.set(JetStarts.HEAT, 20);
        x.spark(true);
        x.tick(1);
        return x;
    }

    /** The start's greatest heat goes back, too: behind undo() it is that of the ticks that stand. */
    private static void undoOfTheGreatestHeat() {
        JetStarts x = hotThenCool();
        int heat = x.engine(1);
        x.save(1);
        x.tick(1);
        int more = x.count(16);
        due("hotter", more > heat ? 1 : 0, 1);
        x.undo();
        due("the greatest heat so far", x.count(16), heat);
        x.set(JetStarts.LIMIT, 300);
        x.set(JetStarts.HEAT, 1);
        x.tick(1);
        due("hot", x.start(0, 0), 1);
        due("its greatest heat", x.start(0, 2), Math.max(heat, x.engine(1)));
        x.set(JetStarts.LIMIT, 1500);
        x.starter(true);
        x.starter(false);
        x.set(JetStarts.LIGHT, 400);
        x.tick(99);
        due("a cooler start", x.start(0, 2) < heat ? 1 : 0, 1);
        x.starter(true);
        x.restore(1);
        due("the greatest heat that was saved", x.count(16), heat);
        x.set(JetStarts.LIGHT, 400);
        x.set(JetStarts.DRAG, 20);
        x.set(JetStarts.HEAT, 1);
        x.set(JetStarts.HANG, 40);
        x.tick(99);
        due("the start that was saved, dead later", x.start(0, 0), 3);
        due("its greatest heat", x.start(0, 2), heat);
    }

    // ---- save and restore

    /** "BAD_VALUE if there is no such slot; NOT_POSSIBLE if nothing was saved in it." */
    private static void slots() {
        int[][] slotAndFine = {{Integer.MIN_VALUE, 0}, {-2, 0}, {-1, 0}, {0, 1}, {1, 1}, {2, 0}, {3, 0},
            {Integer.MAX_VALUE, 0}};
        for (int[] row : slotAndFine) {
            JetStarts x = new JetStarts();
            x.tick(5);
            due("restore(" + row[0] + "), nothing saved", x.restore(row[0]), row[1] == 1 ? -5 : -2);
            due("save(" + row[0] + ")", x.save(row[0]), row[1] == 1 ? 5 : -2);
            x.tick(2);
            due("restore(" + row[0] + ")", x.restore(row[0]), row[1] == 1 ? 5 : -2);
            due("ticks", x.count(7), row[1] == 1 ? 5 : 7);
            if (row[1] == 1) {
                due("restore of the other", x.restore(1 - row[0]), -5);
            }
        }
    }

    /** "Overwrites what was saved there"; "what was saved last in a slot, which keeps it". */
    private static void lastSaved() {
        JetStarts x = new JetStarts();
        for (int i = 1; i <= 4; i++) {
            x.tick(1);
            due("save(0)", x.save(0), i);
            x.tick(1);
            due("restore(0)", x.restore(0), i);
            due("once more", x.restore(0), i);
        }
        x.save(1);
        x.tick(9);
        x.save(0);
        due("slot 1", x.restore(1), 4);
        due("slot 0", x.restore(0), 13);
    }

    /** "Everything except the pad, the history and the slots": they stay as they are behind restore(). */
    private static void whatIsNotSaved() {
        JetStarts x = new JetStarts();
        x.tick(1);
        Due.putAll(x, "s");
        x.save(0);
        x.tick(2);
        x.save(1);
        x.tick(4);
        due("wipe()", x.wipe(), 1);
        Due.putAll(x, "f6;f7");
        due("changes", x.count(18), 3);
        due("restore(0)", x.restore(0), 1);
        due("the history, and one more", x.count(18), 4);
        due("the pad", x.count(17), 5);
        due("the other slot", x.restore(1), 3);
        due("the deeds", x.run(), 2);
        due("fuel step", x.engine(2), 7);
        int[] ticks = {3, 1, 7, 3, 1, 0};
        for (int i = 0; i < 6; i++) {
            due("undo()", x.undo(), 5 - i);
            due("ticks", x.count(7), ticks[i]);
        }
    }

    // ---- ranges that are asked for

    /** 0 to 10 of engine(), 0 to 18 of count(), 0 to 3 of start(). */
    private static void ranges() {
        JetStarts x = new JetStarts();
        x.starter(true);
        x.starter(false);
        x.tick(1);
        for (int what = -3; what <= 22; what++) {
            due("engine(" + what + ")", x.engine(what) >= 0 ? 1 : x.engine(what), what >= 0 && what <= 10 ? 1 : -2);
            due("count(" + what + ")", x.count(what) >= 0 ? 1 : x.count(what), what >= 0 && what <= 18 ? 1 : -2);
            int answer = x.start(0, what);
            due("start(0, " + what + ")", answer >= 0 ? 1 : answer, what >= 0 && what <= 3 ? 1 : -2);
            due("start(1, " + what + ")", x.start(1, what), what >= 0 && what <= 3 ? -6 : -2);
            due("start(-1, " + what + ")", x.start(-1, what), -2);
        }
    }

    /** Steps of 0 to 10, batteries of 0 to 1000, ticks of 1 to 99. */
    private static void rangesOfChanges() {
        for (int value = -2; value <= 1003; value++) {
            JetStarts x = new JetStarts();
            due("fuel(" + value + ")", x.fuel(value), value >= 0 && value <= 10 ? 0 : -2);
            due("battery(" + value + ")", x.battery(value), value >= 0 && value <= 1000 ? 1000 : -2);
            due("tick(" + value + ")", x.tick(value), value >= 1 && value <= 99 ? 0 : -2);
            due("fuel step", x.engine(2), value >= 0 && value <= 10 ? value : 0);
            due("battery", x.engine(7), value >= 0 && value <= 1000 ? value : 1000);
            due("ticks", x.count(7), value >= 1 && value <= 99 ? value : 0);
        }
    }

    public static void main(String[] args) {
        sixStates();
        seventhDropsTheOldest();
        undoOfWhatTicksCount();
        undoOfTheStartUnderWay();
        undoOfTheGreatestHeat();
        slots();
        lastSaved();
        whatIsNotSaved();
        ranges();
        rangesOfChanges();
        Due.end();
    }
}
