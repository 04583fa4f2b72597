/** Brings engines to the edges that the document names, by calls alone. */
final class Engines {
    private Engines() {
    }

    /** What a tick without flame makes of a speed and a push together. */
    static int dragged(int sum, int drag) {
        return sum - sum * drag / 100;
    }

    /** Cranks to exactly this speed, at most 534: no flame, DRAG 1, the starter on, the battery full. */
    static void crankTo(JetStarts x, int speed) {
        x.set(JetStarts.DRAG, 1);
        x.battery(1000);
        x.starter(true);
        for (int left = 60; left > 0 && x.engine(0) < speed; left--) {
            x.battery(1000);
            x.set(JetStarts.CRANK, crankFor(x.engine(0), speed));
            x.tick(1);
        }
        x.battery(1000);
        Due.due("cranked to", x.engine(0), speed);
        Due.due("without a flame", x.engine(6), 0);
    }

    private static int crankFor(int from, int to) {
        int crank = 40;
        while (crank > 1 && dragged(from + crank, 1) > to) {
            crank--;
        }
        return crank;
    }

    /** A cold engine that turns at this speed, with an empty pool, DRAG 1 and the starter on. */
    static JetStarts cranked(int speed) {
        JetStarts x = new JetStarts();
        crankTo(x, speed);
        return x;
    }

    /** The same with the starter off; its start is still under way. */
    static JetStarts turning(int speed) {
        JetStarts x = cranked(speed);
        x.starter(false);
        return x;
    }

    /** Cold and turning, the starter off, with this pool, up to 100, and a fuel step of 0. */
    static JetStarts pooled(int speed, int pool) {
        JetStarts x = new JetStarts();
        for (int step = 1, left = pool; step <= 10 && left > 0; step++) {
            x.fuel(left / (11 - step));
            x.tick(1);
            left -= left / (11 - step);
        }
        x.fuel(0);
        crankTo(x, speed);
        x.starter(false);
        Due.due("the pool", x.engine(3), pool);
        return x;
    }

    /** Fast and hot, with a flame, an empty pool and the spark on; the start has succeeded. */
    static JetStarts running() {
        JetStarts x = new JetStarts();
        x.spark(true);
        x.fuel(7);
        x.starter(true);
        x.tick(99);
        Due.due("it runs", x.engine(8), 1);
        Due.due("the pool", x.engine(3), 0);
        return x;
    }

    /** Without a flame at this speed, 480 to 720, the fuel step 0, the pool empty and the spark on. */
    static JetStarts coasting(int speed) {
        JetStarts x = running();
        x.fuel(0);
        x.tick(1);
        Due.due("there is a way to coast to " + speed, isCoasted(x, speed, 4) ? 1 : 0, 1);
        Due.due("coasting at", x.engine(0), speed);
        Due.due("without a flame", x.engine(6), 0);
        Due.due("and without fuel", x.engine(3), 0);
        return x;
    }

    /** Lets so many ticks pass, if the speed can be reached by them; each has a DRAG of its own. */
    private static boolean isCoasted(JetStarts x, int speed, int ticks) {
        int[] drags = new int[ticks];
        if (!isReached(x.engine(0), speed, drags, 0)) {
            return false;
        }
        for (int drag : drags) {
            x.set(JetStarts.DRAG, drag);
            x.tick(1);
        }
        return true;
    }

    private static boolean isReached(int from, int to, int[] drags, int at) {
        if (at == drags.length) {
            return from == to;
        }
        for (int drag = 1; drag <= 20; drag++) {
            drags[at] = drag;
            if (isReached(dragged(from, drag), to, drags, at + 1)) {
                return true;
            }
        }
        return false;
    }

    /** Sets the fuel step and DRAG so that a tick of a flame with an empty pool leads to this speed. */
    static boolean setForSpeed(JetStarts x, int speed) {
        for (int step = 1; step <= 10; step++) {
            for (int drag = 1; drag <= 20; drag++) {
                int sum = x.engine(0) + step * (x.engine(0) + 100) / 160;
                if (dragged(sum, drag) == speed) {
                    x.fuel(step);
                    x.set(JetStarts.DRAG, drag);
                    return true;
                }
            }
        }
        return false;
    }

    /** Sets HEAT and the fuel step so that what a flame with an empty pool burns brings the heat to this sum. */
    static boolean setForHeat(JetStarts x, int sum) {
        int missing = sum - x.engine(1);
        for (int step = 10; step >= 1; step--) {
            if (missing > 0 && missing % step == 0 && missing / step <= 40) {
                x.fuel(step);
                x.set(JetStarts.HEAT, missing / step);
                return true;
            }
        }
        return false;
    }
}
