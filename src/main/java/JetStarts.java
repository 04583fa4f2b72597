/**
 * A jet engine that is started by crank, spark and fuel step, with a log of its starts.
 * All states are made in the constructor and used again, since all calls of a run share one room.
 */
public final class JetStarts {
    public static final int NO_SUCH = -1, BAD_VALUE = -2, BAD_TEXT = -3, TOO_MANY = -4, NOT_POSSIBLE = -5, NONE = -6;
    public static final int CRANK = 0, DRAG = 1, HEAT = 2, COOL = 3, LIMIT = 4, LIGHT = 5, HANG = 6;

    private static final int SETTINGS = 7;
    private static final int[] LEAST_SETTINGS = {1, 1, 1, 1, 300, 20, 2};
    private static final int[] MOST_SETTINGS = {40, 20, 40, 40, 1500, 400, 40};
    private static final int[] FIRST_SETTINGS = {14, 4, 12, 8, 900, 120, 12};

    private static final int MOST_SPEED = 1100, MOST_HEAT = 2000, MOST_STEP = 10, MOST_POOL = 100, MOST_BATTERY = 1000;
    private static final int CUT_OUT_SPEED = 500, RUNNING_SPEED = 600, LAST_LIGHTING_SPEED = 700;
    private static final int FULL_PUSH_BATTERY = 200, CRANKING_COST = 6, CHARGING = 3;

    private static final int MOST_TICKS = 99999, MOST_TICKS_AT_ONCE = 99, LOOK_AHEAD = 300, BATTERY_STRIDE = 10;
    private static final int STATES_KEPT = 6, SLOTS = 2, PAD_ROOM = 60, CHARACTERS_AT_ONCE = 8;

    private static final int SUCCEEDED = 0, HOT = 1, HUNG = 2, DEAD = 3, ENDINGS = 4, GOES_ON = -1;

    private final State now = new State();
    private final State trial = new State();
    private final History history = new History();
    private final State[] slots = new State[SLOTS];
    private final boolean[] isSaved = new boolean[SLOTS];
    private final Pad pad = new Pad();

    public JetStarts() {
        for (int slot = 0; slot < SLOTS; slot++) {
            slots[slot] = new State();
        }
    }

    public int set(int setting, int value) {
        if (setting < 0 || setting >= SETTINGS) {
            return BAD_VALUE;
        }
        if (value < LEAST_SETTINGS[setting] || value > MOST_SETTINGS[setting]) {
            return BAD_VALUE;
        }
        history.keep(now);
        int previous = now.jet.settings[setting];
        now.jet.settings[setting] = value;
        return previous;
    }

    public int starter(boolean isOn) {
        if (!now.canTurnStarter(isOn)) {
            return NOT_POSSIBLE;
        }
        history.keep(now);
        now.turnStarter(isOn);
        return now.jet.battery;
    }

    public int spark(boolean isOn) {
        if (now.jet.hasSpark == isOn) {
            return NOT_POSSIBLE;
        }
        history.keep(now);
        now.jet.hasSpark = isOn;
        return now.jet.pool;
    }

    public int fuel(int step) {
        if (step < 0 || step > MOST_STEP) {
            return BAD_VALUE;
        }
        history.keep(now);
        int previous = now.jet.step;
        now.jet.step = step;
        return previous;
    }

    public int drain() {
        if (now.jet.hasFlame) {
            return NOT_POSSIBLE;
        }
        history.keep(now);
        int previous = now.jet.pool;
        now.jet.pool = 0;
        return previous;
    }

    public int battery(int charge) {
        if (charge < 0 || charge > MOST_BATTERY) {
            return BAD_VALUE;
        }
        history.keep(now);
        int previous = now.jet.battery;
        now.jet.battery = charge;
        return previous;
    }

    public int tick(int ticks) {
        if (ticks < 1 || ticks > MOST_TICKS_AT_ONCE) {
            return BAD_VALUE;
        }
        if (!now.hasRoomFor(ticks)) {
            return TOO_MANY;
        }
        history.keep(now);
        now.passTicks(ticks);
        return now.jet.speed;
    }

    public int run() {
        if (pad.firstFault() != NONE) {
            return BAD_TEXT;
        }
        history.keep(now);
        int done = 0;
        for (int at = 0; at < pad.length; at++) {
            if (pad.beginsDeed(at) && doDeed(pad.signAt(at), pad.numberFrom(at + 1))) {
                done++;
            }
        }
        pad.length = 0;
        return done;
    }

    public int engine(int what) {
        Engine jet = now.jet;
        switch (what) {
            case 0: return jet.speed;
            case 1: return jet.heat;
            case 2: return jet.step;
            case 3: return jet.pool;
            case 4: return oneIf(jet.hasSpark);
            case 5: return oneIf(jet.isCranking);
            case 6: return oneIf(jet.hasFlame);
            case 7: return jet.battery;
            case 8: return oneIf(jet.runs());
            case 9: return oneIf(now.attempt.isUnderWay);
            case 10: return now.attempt.isUnderWay ? now.attempt.stalledTicks : 0;
            default: return BAD_VALUE;
        }
    }

    public int start(int ago, int what) {
        if (ago < 0 || what < 0 || what >= Log.NUMBERS) {
            return BAD_VALUE;
        }
        return now.log.numberOf(ago, what);
    }

    public int count(int what) {
        if (what >= 0 && what < SETTINGS) {
            return now.jet.settings[what];
        }
        Tally tally = now.tally;
        switch (what) {
            case 7: return now.ticks;
            case 8: return tally.endings[SUCCEEDED];
            case 9: return tally.endings[HOT];
            case 10: return tally.endings[HUNG];
            case 11: return tally.endings[DEAD];
            case 12: return tally.hotTicks;
            case 13: return tally.runningTicks;
            case 14: return tally.newFlames;
            case 15: return tally.lostFlames;
            case 16: return tally.greatestHeat;
            case 17: return pad.length;
            case 18: return history.kept;
            default: return BAD_VALUE;
        }
    }

    public int untilRunning() {
        trial.copyFrom(now);
        return trial.passTicksUntilRunning(true);
    }

    public int ifTicked(int ticks, int what) {
        if (ticks < 1 || ticks > LOOK_AHEAD || what < 0 || what > 4) {
            return BAD_VALUE;
        }
        trial.copyFrom(now);
        trial.tally.forgetHeat();
        trial.passTicks(ticks);
        switch (what) {
            case 0: return trial.jet.speed;
            case 1: return trial.jet.heat;
            case 2: return trial.jet.battery;
            case 3: return trial.tally.hotTicks;
            default: return trial.tally.greatestHeat;
        }
    }

    public int bestFuel() {
        int best = NONE;
        int soonest = LOOK_AHEAD + 1;
        for (int step = 0; step <= MOST_STEP; step++) {
            trial.copyFrom(now);
            trial.jet.step = step;
            int taken = trial.passTicksUntilRunning(false);
            if (taken != NONE && taken < soonest) {
                soonest = taken;
                best = step;
            }
        }
        return best;
    }

    public int leastBattery() {
        for (int charge = 0; charge <= MOST_BATTERY; charge += BATTERY_STRIDE) {
            trial.copyFrom(now);
            trial.jet.battery = charge;
            if (trial.passTicksUntilRunning(true) != NONE) {
                return charge;
            }
        }
        return NONE;
    }

    public int put(long characters) {
        int added = Pad.charactersIn(characters);
        if (added == 0) {
            return BAD_VALUE;
        }
        if (pad.length + added > PAD_ROOM) {
            return TOO_MANY;
        }
        pad.append(characters, added);
        return pad.length;
    }

    public int wipe() {
        int previous = pad.length;
        pad.length = 0;
        return previous;
    }

    public int fault() {
        return pad.firstFault();
    }

    public int undo() {
        if (history.kept == 0) {
            return NOT_POSSIBLE;
        }
        history.takeLatest(now);
        return history.kept;
    }

    public int save(int slot) {
        if (slot < 0 || slot >= SLOTS) {
            return BAD_VALUE;
        }
        slots[slot].copyFrom(now);
        isSaved[slot] = true;
        return now.ticks;
    }

    public int restore(int slot) {
        if (slot < 0 || slot >= SLOTS) {
            return BAD_VALUE;
        }
        if (!isSaved[slot]) {
            return NOT_POSSIBLE;
        }
        history.keep(now);
        now.copyFrom(slots[slot]);
        return now.ticks;
    }

    private static int oneIf(boolean isSo) {
        return isSo ? 1 : 0;
    }

    /** Does one deed without a state of its own in the history; tells whether it was possible. */
    private boolean doDeed(char deed, int number) {
        switch (deed) {
            case 'c':
                boolean isOn = !now.jet.isCranking;
                if (!now.canTurnStarter(isOn)) {
                    return false;
                }
                now.turnStarter(isOn);
                return true;
            case 's':
                now.jet.hasSpark = !now.jet.hasSpark;
                return true;
            case 'f':
                now.jet.step = number;
                return true;
            default:
                if (!now.hasRoomFor(number)) {
                    return false;
                }
                now.passTicks(number);
                return true;
        }
    }

    /** All that undo brings back and that a slot holds. */
    private static final class State {
        private final Engine jet = new Engine();
        private final Attempt attempt = new Attempt();
        private final Log log = new Log();
        private final Tally tally = new Tally();
        private int ticks;

        private void copyFrom(State other) {
            jet.copyFrom(other.jet);
            attempt.copyFrom(other.attempt);
            log.copyFrom(other.log);
            tally.copyFrom(other.tally);
            ticks = other.ticks;
        }

        private boolean hasRoomFor(int more) {
            return ticks + more <= MOST_TICKS;
        }

        private boolean canTurnStarter(boolean isOn) {
            if (jet.isCranking == isOn) {
                return false;
            }
            return !isOn || (jet.battery > 0 && jet.speed < CUT_OUT_SPEED);
        }

        private void turnStarter(boolean isOn) {
            jet.isCranking = isOn;
            if (isOn && !attempt.isUnderWay) {
                attempt.begin(jet.battery);
            }
        }

        private void passTicks(int number) {
            for (int passed = 0; passed < number; passed++) {
                passTick();
            }
        }

        private void passTick() {
            int speedBefore = jet.speed;
            boolean hadFlame = jet.hasFlame;
            ticks++;
            jet.passTick();
            tally.addTick(jet, hadFlame);
            if (attempt.isUnderWay) {
                attempt.addTick(jet, speedBefore);
                endAttemptIfOver();
            }
        }

        private void endAttemptIfOver() {
            int ending = attempt.endingWith(jet);
            if (ending == GOES_ON) {
                return;
            }
            log.add(ending, attempt, jet.battery);
            tally.addEnding(ending);
            attempt.isUnderWay = false;
            if (ending != SUCCEEDED) {
                jet.isCranking = false;
            }
        }

        /** Passes ticks until the engine runs; returns how many, or NONE if none within the look-ahead do. */
        private int passTicksUntilRunning(boolean mayBeHot) {
            for (int passed = 0; passed <= LOOK_AHEAD; passed++) {
                if (passed > 0) {
                    passTick();
                    if (!mayBeHot && jet.isHot()) {
                        return NONE;
                    }
                }
                if (jet.runs()) {
                    return passed;
                }
                if (jet.isSpent()) {
                    return NONE;
                }
            }
            return NONE;
        }
    }

    /** The engine with its settings, and what a tick does to it. */
    private static final class Engine {
        private final int[] settings = new int[SETTINGS];
        private int speed;
        private int heat;
        private int step;
        private int pool;
        private int battery = MOST_BATTERY;
        private boolean hasSpark;
        private boolean isCranking;
        private boolean hasFlame;

        private Engine() {
            System.arraycopy(FIRST_SETTINGS, 0, settings, 0, SETTINGS);
        }

        private void copyFrom(Engine other) {
            System.arraycopy(other.settings, 0, settings, 0, SETTINGS);
            speed = other.speed;
            heat = other.heat;
            step = other.step;
            pool = other.pool;
            battery = other.battery;
            hasSpark = other.hasSpark;
            isCranking = other.isCranking;
            hasFlame = other.hasFlame;
        }

        private boolean runs() {
            return hasFlame && speed >= RUNNING_SPEED;
        }

        private boolean isHot() {
            return heat > settings[LIMIT];
        }

        /** Without starter and flame the speed only falls: too slow to be lit, it stays so by itself. */
        private boolean isSpent() {
            return !isCranking && !hasFlame && speed < settings[LIGHT];
        }

        private void passTick() {
            int push = pushOfStarter();
            changeFlame();
            int burnt = burn();
            changeSpeed(push, burnt);
            changeHeat(burnt);
            if (runs()) {
                battery = Math.min(battery + CHARGING, MOST_BATTERY);
            }
        }

        private int pushOfStarter() {
            if (speed >= CUT_OUT_SPEED || battery == 0) {
                isCranking = false;
            }
            if (!isCranking) {
                return 0;
            }
            battery = Math.max(battery - CRANKING_COST, 0);
            int crank = settings[CRANK];
            return battery >= FULL_PUSH_BATTERY ? crank : crank * battery / FULL_PUSH_BATTERY;
        }

        private void changeFlame() {
            int light = settings[LIGHT];
            if (hasFlame) {
                boolean isStarved = step == 0 && pool == 0;
                hasFlame = !isStarved && speed >= light / 2;
            } else {
                pool = Math.min(pool + step, MOST_POOL);
                hasFlame = hasSpark && pool > 0 && speed >= light && speed <= LAST_LIGHTING_SPEED;
            }
        }

        private int burn() {
            if (!hasFlame) {
                return 0;
            }
            int fromPool = (pool + 3) / 4;
            pool -= fromPool;
            return step + fromPool;
        }

        private void changeSpeed(int push, int burnt) {
            int sum = speed + push + burnt * (speed + 100) / 160;
            speed = Math.min(sum - sum * settings[DRAG] / 100, MOST_SPEED);
        }

        private void changeHeat(int burnt) {
            int hottest = Math.min(heat + burnt * settings[HEAT], MOST_HEAT);
            int loss = hottest * settings[COOL] * (speed + 200) / 20000;
            heat = Math.max(hottest - loss, 0);
        }
    }

    /** The start that is under way, if one is. */
    private static final class Attempt {
        private boolean isUnderWay;
        private int ticks;
        private int greatestHeat;
        private int firstBattery;
        private int stalledTicks;

        private void copyFrom(Attempt other) {
            isUnderWay = other.isUnderWay;
            ticks = other.ticks;
            greatestHeat = other.greatestHeat;
            firstBattery = other.firstBattery;
            stalledTicks = other.stalledTicks;
        }

        private void begin(int battery) {
            isUnderWay = true;
            ticks = 0;
            greatestHeat = 0;
            firstBattery = battery;
            stalledTicks = 0;
        }

        private void addTick(Engine jet, int speedBefore) {
            ticks++;
            greatestHeat = Math.max(greatestHeat, jet.heat);
            stalledTicks = jet.speed > speedBefore ? 0 : stalledTicks + 1;
        }

        private int endingWith(Engine jet) {
            if (jet.isHot()) {
                return HOT;
            }
            if (jet.runs()) {
                return SUCCEEDED;
            }
            if (jet.hasFlame && stalledTicks >= jet.settings[HANG]) {
                return HUNG;
            }
            return jet.isSpent() ? DEAD : GOES_ON;
        }
    }

    /** The latest starts that ended, the latest one first. */
    private static final class Log {
        private static final int ROOM = 10, NUMBERS = 4, BATTERY_SHIFT = 2000;

        private final int[] numbers = new int[ROOM * NUMBERS];
        private int kept;

        private void copyFrom(Log other) {
            System.arraycopy(other.numbers, 0, numbers, 0, ROOM * NUMBERS);
            kept = other.kept;
        }

        private void add(int ending, Attempt attempt, int lastBattery) {
            for (int at = ROOM * NUMBERS - 1; at >= NUMBERS; at--) {
                numbers[at] = numbers[at - NUMBERS];
            }
            numbers[0] = ending;
            numbers[1] = attempt.ticks;
            numbers[2] = attempt.greatestHeat;
            numbers[3] = attempt.firstBattery - lastBattery + BATTERY_SHIFT;
            kept = Math.min(kept + 1, ROOM);
        }

        private int numberOf(int ago, int what) {
            if (ago < 0 || ago >= kept || what < 0 || what >= NUMBERS) {
                return NONE;
            }
            return numbers[ago * NUMBERS + what];
        }
    }

    /** What is counted over all ticks and starts. */
    private static final class Tally {
        private final int[] endings = new int[ENDINGS];
        private int hotTicks;
        private int runningTicks;
        private int newFlames;
        private int lostFlames;
        private int greatestHeat;

        private void copyFrom(Tally other) {
            System.arraycopy(other.endings, 0, endings, 0, ENDINGS);
            hotTicks = other.hotTicks;
            runningTicks = other.runningTicks;
            newFlames = other.newFlames;
            lostFlames = other.lostFlames;
            greatestHeat = other.greatestHeat;
        }

        /** So that the ticks of a trial alone are told. */
        private void forgetHeat() {
            hotTicks = 0;
            greatestHeat = 0;
        }

        private void addTick(Engine jet, boolean hadFlame) {
            hotTicks += oneIf(jet.isHot());
            runningTicks += oneIf(jet.runs());
            newFlames += oneIf(!hadFlame && jet.hasFlame);
            lostFlames += oneIf(hadFlame && !jet.hasFlame);
            greatestHeat = Math.max(greatestHeat, jet.heat);
        }

        private void addEnding(int ending) {
            if (ending >= 0 && ending < ENDINGS) {
                endings[ending]++;
            }
        }
    }

    /** The states before the latest changes, in a ring. */
    private static final class History {
        private final State[] states = new State[STATES_KEPT];
        private int oldest;
        private int kept;

        private History() {
            for (int at = 0; at < STATES_KEPT; at++) {
                states[at] = new State();
            }
        }

        private void keep(State state) {
            states[(oldest + kept) % STATES_KEPT].copyFrom(state);
            if (kept < STATES_KEPT) {
                kept++;
            } else {
                oldest = (oldest + 1) % STATES_KEPT;
            }
        }

        private void takeLatest(State into) {
            if (kept > 0) {
                kept--;
                into.copyFrom(states[(oldest + kept) % STATES_KEPT]);
            }
        }
    }

    /** The text of deeds. */
    private static final class Pad {
        private static final int FIRST_SIGN = 33, LAST_SIGN = 126;
        /** What may come next while the text is read; CANNOT_STAND is no place, but tells of a fault. */
        private static final int AT_DEED = 0, BEHIND_DEED = 1, AT_STEP = 2, BEHIND_ONE = 3, AT_TICKS = 4,
            BEHIND_TICK_DIGIT = 5, CANNOT_STAND = -1;

        private final char[] signs = new char[PAD_ROOM];
        private int length;

        /** How many characters the number gives, 0 if it is not well formed. */
        private static int charactersIn(long characters) {
            int found = 0;
            long rest = characters;
            for (int at = 0; at < CHARACTERS_AT_ONCE && rest != 0; at++) {
                long code = rest & 255;
                if (code < FIRST_SIGN || code > LAST_SIGN) {
                    return 0;
                }
                found++;
                rest >>>= 8;
            }
            return found;
        }

        private void append(long characters, int added) {
            for (int left = added - 1; left >= 0 && length < PAD_ROOM; left--) {
                signs[length] = (char) (characters >>> (8 * left) & 255);
                length++;
            }
        }

        private char signAt(int at) {
            return at >= 0 && at < length ? signs[at] : 0;
        }

        private boolean beginsDeed(int at) {
            return at == 0 || signAt(at - 1) == ';';
        }

        /** The number whose first digit stands here, 0 if there is no digit. */
        private int numberFrom(int first) {
            int number = 0;
            for (int at = first; at < length && isDigit(signAt(at)); at++) {
                number = number * 10 + signAt(at) - '0';
            }
            return number;
        }

        private int firstFault() {
            int place = AT_DEED;
            for (int at = 0; at < length; at++) {
                place = placeBehind(place, signAt(at));
                if (place == CANNOT_STAND) {
                    return at;
                }
            }
            boolean mayEnd = place == BEHIND_DEED || place == BEHIND_ONE || place == BEHIND_TICK_DIGIT;
            return mayEnd ? NONE : length;
        }

        private static int placeBehind(int place, char sign) {
            switch (place) {
                case AT_DEED:
                    return placeBehindDeedSign(sign);
                case AT_STEP:
                    return !isDigit(sign) ? CANNOT_STAND : sign == '1' ? BEHIND_ONE : BEHIND_DEED;
                case AT_TICKS:
                    return isDigit(sign) && sign != '0' ? BEHIND_TICK_DIGIT : CANNOT_STAND;
                case BEHIND_ONE:
                    return sign == '0' ? BEHIND_DEED : placeBehindEnd(sign);
                case BEHIND_TICK_DIGIT:
                    return isDigit(sign) ? BEHIND_DEED : placeBehindEnd(sign);
                default:
                    return placeBehindEnd(sign);
            }
        }

        private static int placeBehindDeedSign(char sign) {
            switch (sign) {
                case 'c':
                case 's':
                    return BEHIND_DEED;
                case 'f':
                    return AT_STEP;
                case '.':
                    return AT_TICKS;
                default:
                    return CANNOT_STAND;
            }
        }

        private static int placeBehindEnd(char sign) {
            return sign == ';' ? AT_DEED : CANNOT_STAND;
        }

        private static boolean isDigit(char sign) {
            return sign >= '0' && sign <= '9';
        }
    }
}
