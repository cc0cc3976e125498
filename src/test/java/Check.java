import java.util.NoSuchElementException;

/** Counts answers that are not due, and feeds texts. */
final class Check {
    private int asked;
    private int wrong;

    void due(String call, long got, long want) {
        asked++;
        if (got != want) {
            wrong++;
            System.out.println(call + " answered " + got + ", due is " + want);
        }
    }

    void due(String call, boolean got, boolean want) {
        due(call, got ? 1 : 0, want ? 1 : 0);
    }

    void noMan(FrostLocks x, int man, int what) {
        boolean thrown = false;
        try {
            x.man(man, what);
        } catch (NoSuchElementException e) {
            thrown = true;
        }
        due("man(" + man + ", " + what + ") throws", thrown, true);
    }

    void noDegrees(FrostLocks x, int hours) {
        boolean thrown = false;
        try {
            x.degrees(hours);
        } catch (NoSuchElementException e) {
            thrown = true;
        }
        due("degrees(" + hours + ") throws", thrown, true);
    }

    void fault(String text, int kind, int place) {
        FrostLocks x = new FrostLocks();
        feed(x, text);
        due("prison() of '" + text + "'", x.prison(), kind + 16 * place);
        due("cells behind '" + text + "'", x.count(0), 0);
        due("signs behind '" + text + "'", x.count(7), 0);
    }

    FrostLocks told(String text) {
        FrostLocks x = new FrostLocks();
        tell(x, text);
        return x;
    }

    void tell(FrostLocks x, String text) {
        feed(x, text);
        due("prison() of '" + text + "'", x.prison(), 0);
    }

    /** All that can be seen of an object without a change, as one text. */
    static String look(FrostLocks x) {
        StringBuilder seen = new StringBuilder();
        for (int what = 0; what < 8; what++) {
            seen.append("count ").append(x.count(what)).append(' ');
        }
        for (int cell = 0; cell < x.count(0); cell++) {
            for (int what = 0; what < 4; what++) {
                seen.append("cell ").append(x.cell(cell, what)).append(' ');
            }
        }
        for (int door = 0; door < x.count(1); door++) {
            for (int what = 0; what < 5; what++) {
                seen.append("door ").append(x.door(door, what)).append(' ');
            }
            seen.append("beside ").append(x.beside(door)).append(' ');
        }
        for (int man = 0; man < x.count(2); man++) {
            for (int what = 0; what < 3; what++) {
                seen.append("man ").append(x.man(man, what)).append(' ');
            }
        }
        return seen.append("degrees ").append(x.degrees(0)).append(" salted ").append(x.salted(1)).toString();
    }

    void same(String what, String got, String want) {
        due(what + ": " + got + " against " + want, got.equals(want), true);
    }

    static int feed(FrostLocks x, String text) {
        int length = x.count(7);
        for (int i = 0; i < text.length(); i += 24) {
            length = x.feed(packed(text, i), packed(text, i + 8), packed(text, i + 16));
        }
        return length;
    }

    static long packed(String text, int from) {
        long bytes = 0;
        for (int i = from; i < from + 8; i++) {
            bytes = bytes << 8 | (i < text.length() ? text.charAt(i) : 0);
        }
        return bytes;
    }

    void end() {
        System.out.println(asked + " answers, " + wrong + " not as due");
        if (wrong != 0) {
            System.exit(1);
        }
    }
}
