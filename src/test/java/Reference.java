import java.util.ArrayDeque;
import java.util.ArrayList;
import java.util.HashMap;
import java.util.List;
import java.util.Map;
import java.util.regex.Pattern;

/**
 * A second, slow reading of the document, written apart from the class: states are maps that are copied whole,
 * texts are matched by patterns, and a change is made on a copy that is kept only if it is no error.
 */
final class Reference {
    private static final int[][] RANGES = {{1, 40, 14}, {1, 20, 4}, {1, 40, 12}, {1, 40, 8}, {300, 1500, 900},
        {20, 400, 120}, {2, 40, 12}};
    private static final Pattern TEXT =
        Pattern.compile("(c|s|f(10|[0-9])|\\.[1-9][0-9]?)(;(c|s|f(10|[0-9])|\\.[1-9][0-9]?))*");

    private Map<String, Integer> state = new HashMap<>();
    private List<int[]> log = new ArrayList<>();
    private final ArrayDeque<Object[]> past = new ArrayDeque<>();
    private final Object[][] saved = new Object[2][];
    private String pad = "";

    Reference() {
        for (int i = 0; i < 7; i++) {
            put("set" + i, RANGES[i][2]);
        }
        put("battery", 1000);
    }

    private int get(String name) {
        return state.getOrDefault(name, 0);
    }

    private void put(String name, int value) {
        state.put(name, value);
    }

    private void more(String name, int by) {
        put(name, get(name) + by);
    }

    private Object[] copy() {
        return new Object[] {new HashMap<>(state), new ArrayList<>(log)};
    }

    @SuppressWarnings("unchecked")
    private void become(Object[] copy) {
        state = new HashMap<>((Map<String, Integer>) copy[0]);
        log = new ArrayList<>((List<int[]>) copy[1]);
    }

    private void remember() {
        past.addLast(copy());
        if (past.size() > 6) {
            past.removeFirst();
        }
    }

    int set(int setting, int value) {
        if (setting < 0 || setting > 6 || value < RANGES[setting][0] || value > RANGES[setting][1]) {
            return -2;
        }
        remember();
        int old = get("set" + setting);
        put("set" + setting, value);
        return old;
    }

    private boolean turn(boolean on) {
        if ((get("starter") == 1) == on) {
            return false;
        }
        if (on && (get("battery") == 0 || get("speed") >= 500)) {
            return false;
        }
        put("starter", on ? 1 : 0);
        if (on && get("under") == 0) {
            put("under", 1);
            put("took", 0);
            put("max", 0);
            put("stall", 0);
            put("from", get("battery"));
        }
        return true;
    }

    int starter(boolean on) {
        Object[] before = copy();
        if (!turn(on)) {
            return -5;
        }
        Object[] after = copy();
        become(before);
        remember();
        become(after);
        return get("battery");
    }

    int spark(boolean on) {
        if (get("spark") == (on ? 1 : 0)) {
            return -5;
        }
        remember();
        put("spark", on ? 1 : 0);
        return get("pool");
    }

    private int replace(String name, int value, int most) {
        if (value < 0 || value > most) {
            return -2;
        }
        remember();
        int old = get(name);
        put(name, value);
        return old;
    }

    int fuel(int step) {
        return replace("step", step, 10);
    }

    int drain() {
        return get("flame") == 1 ? -5 : replace("pool", 0, 100);
    }

    int battery(int charge) {
        return replace("battery", charge, 1000);
    }

    int tick(int ticks) {
        if (ticks < 1 || ticks > 99) {
            return -2;
        }
        if (get("ticks") + ticks > 99999) {
            return -4;
        }
        remember();
        for (int i = 0; i < ticks; i++) {
            pass();
        }
        return get("speed");
    }

    private boolean runs() {
        return get("flame") == 1 && get("speed") >= 600;
    }

    private boolean hot() {
        return get("heat") > get("set4");
    }

    private void pass() {
        more("ticks", 1);
        int before = get("speed");
        // 1
        int push = 0;
        if (get("starter") == 1 && (before >= 500 || get("battery") == 0)) {
            put("starter", 0);
        }
        if (get("starter") == 1) {
            int left = get("battery") - 6;
            if (left < 0) {
                left = 0;
            }
            put("battery", left);
            push = left >= 200 ? get("set0") : get("set0") * left / 200;
        }
        // 2
        int light = get("set5");
        if (get("flame") == 0) {
            put("pool", Math.min(100, get("pool") + get("step")));
            if (get("spark") == 1 && get("pool") > 0 && before >= light && before <= 700) {
                put("flame", 1);
                more("lit", 1);
            }
        } else if ((get("step") == 0 && get("pool") == 0) || before < light / 2) {
            put("flame", 0);
            more("out", 1);
        }
        // 3
        int burns = 0;
        if (get("flame") == 1) {
            int quarter = get("pool") / 4 + (get("pool") % 4 > 0 ? 1 : 0);
            more("pool", -quarter);
            burns = quarter + get("step");
        }
        // 4
        int speed = before + push + burns * (before + 100) / 160;
        speed -= speed * get("set1") / 100;
        put("speed", speed > 1100 ? 1100 : speed);
        // 5
        int heat = get("heat") + burns * get("set2");
        if (heat > 2000) {
            heat = 2000;
        }
        heat -= heat * get("set3") * (get("speed") + 200) / 20000;
        put("heat", heat < 0 ? 0 : heat);
        // 6
        if (runs()) {
            put("battery", Math.min(1000, get("battery") + 3));
            more("ran", 1);
        }
        if (hot()) {
            more("hot", 1);
        }
        put("hottest", Math.max(get("hottest"), get("heat")));
        if (get("under") == 1) {
            lookAtStart(before);
        }
    }

    private void lookAtStart(int speedBefore) {
        more("took", 1);
        put("max", Math.max(get("max"), get("heat")));
        put("stall", get("speed") <= speedBefore ? get("stall") + 1 : 0);
        int end;
        if (hot()) {
            end = 1;
        } else if (runs()) {
            end = 0;
        } else if (get("flame") == 1 && get("stall") >= get("set6")) {
            end = 2;
        } else if (get("starter") == 0 && get("flame") == 0 && get("speed") < get("set5")) {
            end = 3;
        } else {
            return;
        }
        log.add(0, new int[] {end, get("took"), get("max"), get("from") - get("battery") + 2000});
        if (log.size() > 10) {
            log.remove(10);
        }
        more("end" + end, 1);
        put("under", 0);
        if (end != 0) {
            put("starter", 0);
        }
    }

    int run() {
        if (!TEXT.matcher(pad).matches()) {
            return -3;
        }
        remember();
        int done = 0;
        for (String deed : pad.split(";")) {
            done += deed(deed) ? 1 : 0;
        }
        pad = "";
        return done;
    }

    private boolean deed(String deed) {
        if (deed.equals("c")) {
            return turn(get("starter") == 0);
        }
        if (deed.equals("s")) {
            put("spark", 1 - get("spark"));
            return true;
        }
        int number = Integer.parseInt(deed.substring(1));
        if (deed.startsWith("f")) {
            put("step", number);
            return true;
        }
        if (get("ticks") + number > 99999) {
            return false;
        }
        for (int i = 0; i < number; i++) {
            pass();
        }
        return true;
    }

    int engine(int what) {
        String[] names = {"speed", "heat", "step", "pool", "spark", "starter", "flame", "battery", "", "under"};
        if (what < 0 || what > 10) {
            return -2;
        }
        if (what == 8) {
            return runs() ? 1 : 0;
        }
        return what < 10 ? get(names[what]) : get("under") == 1 ? get("stall") : 0;
    }

    int start(int ago, int what) {
        if (ago < 0 || what < 0 || what > 3) {
            return -2;
        }
        return ago < log.size() ? log.get(ago)[what] : -6;
    }

    int count(int what) {
        String[] names = {"ticks", "end0", "end1", "end2", "end3", "hot", "ran", "lit", "out", "hottest"};
        if (what < 0 || what > 18) {
            return -2;
        }
        if (what < 7) {
            return get("set" + what);
        }
        return what < 17 ? get(names[what - 7]) : what == 17 ? pad.length() : past.size();
    }

    /** Behind how many of 300 ticks the engine runs; -6 if it doesn't, or if there was a hot one and that is barred. */
    private int until(String name, int value, boolean isHotBarred) {
        Object[] before = copy();
        if (!name.isEmpty()) {
            put(name, value);
        }
        int taken = 0;
        int hotBefore = get("hot");
        while (!runs() && taken < 300) {
            pass();
            taken++;
        }
        boolean isFine = runs() && !(isHotBarred && get("hot") > hotBefore);
        become(before);
        return isFine ? taken : -6;
    }

    int untilRunning() {
        return until("", 0, false);
    }

    int ifTicked(int ticks, int what) {
        if (ticks < 1 || ticks > 300 || what < 0 || what > 4) {
            return -2;
        }
        Object[] before = copy();
        int hot = 0;
        int hottest = 0;
        for (int i = 0; i < ticks; i++) {
            pass();
            hot += hot() ? 1 : 0;
            hottest = Math.max(hottest, get("heat"));
        }
        int answer = new int[] {get("speed"), get("heat"), get("battery"), hot, hottest}[what];
        become(before);
        return answer;
    }

    int bestFuel() {
        int best = -6;
        int least = 999;
        for (int step = 10; step >= 0; step--) {
            int taken = until("step", step, true);
            if (taken >= 0 && taken <= least) {
                least = taken;
                best = step;
            }
        }
        return best;
    }

    int leastBattery() {
        int least = -6;
        for (int tens = 100; tens >= 0; tens--) {
            if (until("battery", tens * 10, false) >= 0) {
                least = tens * 10;
            }
        }
        return least;
    }

    int put(long characters) {
        String added = "";
        for (int shift = 56; shift >= 0; shift -= 8) {
            int code = (int) (characters >>> shift) & 255;
            if (code == 0 && added.isEmpty()) {
                continue;
            }
            if (code < 33 || code > 126) {
                return -2;
            }
            added += (char) code;
        }
        if (added.isEmpty()) {
            return -2;
        }
        if (pad.length() + added.length() > 60) {
            return -4;
        }
        pad += added;
        return pad.length();
    }

    int wipe() {
        int length = pad.length();
        pad = "";
        return length;
    }

    /** A beginning can stand if some end makes a text of it: the first beginning that cannot has the fault. */
    int fault() {
        String[] ends = {"", "c", "1"};
        for (int length = 1; length <= pad.length(); length++) {
            boolean canStand = false;
            for (String end : ends) {
                canStand |= TEXT.matcher(pad.substring(0, length) + end).matches();
            }
            if (!canStand) {
                return length - 1;
            }
        }
        return TEXT.matcher(pad).matches() ? -6 : pad.length();
    }

    int undo() {
        if (past.isEmpty()) {
            return -5;
        }
        become(past.removeLast());
        return past.size();
    }

    int save(int slot) {
        if (slot < 0 || slot > 1) {
            return -2;
        }
        saved[slot] = copy();
        return get("ticks");
    }

    int restore(int slot) {
        if (slot < 0 || slot > 1) {
            return -2;
        }
        if (saved[slot] == null) {
            return -5;
        }
        remember();
        become(saved[slot]);
        return get("ticks");
    }
}
