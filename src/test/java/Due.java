/** Compares answers with those that are due, and ends a test with exit code 1 if one was wrong. */
final class Due {
    private static int right = 0;
    private static int wrong = 0;

    private Due() {
    }

    static void due(String call, long got, long want) {
        if (got == want) {
            right++;
        } else {
            wrong++;
            System.out.println(call + " answered " + got + ", due is " + want);
        }
    }

    static void end() {
        System.out.println(right + " answers as due, " + wrong + " not");
        if (wrong != 0 || right == 0) {
            System.exit(1);
        }
    }

    /** The number by which put() is given 1 to 8 characters. */
    static long packed(String characters) {
        long number = 0;
        for (int i = 0; i < characters.length(); i++) {
            number = number << 8 | characters.charAt(i);
        }
        return number;
    }

    static void putAll(JetStarts x, String text) {
        for (int i = 0; i < text.length(); i += 8) {
            int end = Math.min(i + 8, text.length());
            due("put of " + text.substring(i, end), x.put(packed(text.substring(i, end))), end);
        }
    }

    /** Every number that can be asked for without a change, to see that nothing changed. */
    static int[] everything(JetStarts x) {
        int[] all = new int[80];
        int at = 0;
        for (int what = 0; what <= 10; what++) {
            all[at++] = x.engine(what);
        }
        for (int what = 0; what <= 18; what++) {
            all[at++] = x.count(what);
        }
        for (int ago = 0; ago < 10; ago++) {
            for (int what = 0; what < 4; what++) {
                all[at++] = x.start(ago, what);
            }
        }
        return all;
    }

    static void same(String call, int[] got, int[] want) {
        due(call + ": all else", java.util.Arrays.equals(got, want) ? 1 : 0, 1);
    }
}
