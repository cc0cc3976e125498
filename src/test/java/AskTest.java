/** Promises 13 to 24: what is asked from now on, and marks. */
public final class AskTest {
    private static final int[] WILD = {-1, 100000, Integer.MIN_VALUE, Integer.MAX_VALUE};

    private final Check check = new Check();

    public static void main(String[] args) {
        AskTest test = new AskTest();
        test.soon();
        test.needs();
        test.needsIsNoLine();
        test.first();
        test.enough();
        test.plan();
        test.escape();
        test.salted();
        test.beside();
        test.thaw();
        test.amnesty();
        test.lots();
        test.marks();
        test.check.end();
    }

    /** Three doors that lose 1, 2 and no ice an hour. */
    private FrostLocks melting() {
        return check.told("ice 0-stove;cell a stove 1;cell b stove 2;cell c stove 0;door a to out thick 8;"
            + "door b to out thick 6;door c to out thick 1;");
    }

    private void soon() {
        FrostLocks x = melting();
        check.due("soon", x.soon(0, 240), 8);
        check.due("soon in time", x.soon(0, 8), 8);
        check.due("too late", x.soon(0, 7), -1);
        check.due("soon", x.soon(1, 3), 3);
        check.due("never", x.soon(2, 240), -1);
        check.due("hours 0", x.soon(0, 0), -1);
        check.due("hours 241", x.soon(0, 241), -1);
        check.due("no door", x.soon(3, 8), -1);
        for (int wild : WILD) {
            check.due("wild soon", x.soon(wild, 8), -1);
            check.due("wild soon", x.soon(0, wild), -1);
        }
        check.due("all is as ahead", x.count(4), 0);
        check.due("all is as ahead", x.door(0, 0), 8);
        x.hours(3);
        check.due("now", x.soon(1, 1), 0);
        check.due("soon", x.soon(0, 240), 5);
        // Ice that comes back is loose for the first time all the same.
        FrostLocks y = check.told("weather hour-1;ice 0-degrees*2;cell a stove 0;door a to out thick 0;");
        y.pour(0, 9);
        check.due("loose now", y.soon(0, 9), 0);
        check.due("first", y.first(9, 0), 0);
    }

    private void needs() {
        FrostLocks x = check.told("weather hour-4;ice 0-degrees;cell a stove 0;door a to out thick 3;");
        // Freezing 4, 3, 2, 1, 0, then 1, 2, 3 .. melt.
        check.due("needs none", x.needs(0, 6), 0);
        check.due("needs none", x.needs(0, 5), 0);
        check.due("needs one", x.needs(0, 7), 1);
        check.due("needs four", x.needs(0, 8), 4);
        check.due("needs eight", x.needs(0, 9), 8);
        check.due("no more freezes", x.needs(0, 10), -1);
        check.due("hours 0", x.needs(0, 0), -1);
        check.due("hours 241", x.needs(0, 241), -1);
        check.due("no door", x.needs(1, 1), -1);
        for (int wild : WILD) {
            check.due("wild needs", x.needs(wild, 8), -1);
            check.due("wild needs", x.needs(0, wild), -1);
        }
        x.pour(0, 3);
        check.due("one is missing", x.needs(0, 8), 1);
        check.due("all is as ahead", x.door(0, 1), 3);
        FrostLocks y = check.told("ice 9;cell a stove 0;door a to out thick 0;");
        check.due("loose now may be", y.needs(0, 240), 1);
        check.due("soon", y.soon(0, 1), 0);
        FrostLocks z = check.told("ice 0;cell a stove 0;door a to out thick 0;door a to out thick 1;");
        check.due("water alone is loose", z.needs(0, 1), -1);
        check.due("ice is not", z.needs(1, 240), 0);
        FrostLocks w = check.told("weather 0;cell a stove 0;door a to out thick 20;man m in a salt 2 waits 99;");
        w.salt(0, 0);
        w.salt(0, 0);
        // 7, 4, 1, 1 .. of 20: loose behind twelve.
        check.due("with salt", w.soon(0, 240), 11);
        check.due("with salt", w.needs(0, 10), 0);
        check.due("with salt", w.needs(0, 11), -1);
    }

    private void needsIsNoLine() {
        // Just 7 or more than 50 of water freeze.
        FrostLocks x = check.told("ice (water=7)*7+(50<water)-(ice+water=8);cell a stove 0;door a to out thick 0;");
        check.due("the least", x.needs(0, 5), 7);
        x.pour(0, 8);
        check.due("the next", x.needs(0, 5), 43);
        String brim = "ice (ice+water=99)*20;cell a stove 0;door a to out thick 0;";
        FrostLocks z = check.told(brim);
        check.due("all the room", z.needs(0, 240), 99);
        z.pour(0, 40);
        check.due("all the room left", z.needs(0, 240), 59);
        z.pour(0, 59);
        check.due("no room, and none needed", z.needs(0, 240), 0);
        FrostLocks w = check.told("ice (100<ice+water)*20-1;cell a stove 0;door a to out thick 50;");
        check.due("as long as it lasts", w.needs(0, 49), 0);
        check.due("no more than the room", w.needs(0, 50), -1);
        // Its water leaves the others as they are: men go through another door, and their breath is gone.
        FrostLocks y = check.told("ice 2-breath*3;cell a stove 0;cell b stove 0;door a to out thick 5;"
            + "door a to out thick 1;man m in a salt 0 waits 0;");
        check.due("he is out by the second", y.escape(0, 9), 1);
        check.due("the first then freezes", y.needs(0, 200), 0);
        check.due("the second does not", y.needs(1, 3), 0 - 1);
    }

    private void first() {
        FrostLocks x = melting();
        int[] want = {1, 0, 2};
        for (int i = 0; i < 3; i++) {
            check.due("first " + i, x.first(240, i), want[i]);
            check.due("never, by number", x.first(2, i), i);
        }
        check.due("in three", x.first(3, 0), 1);
        check.due("in three", x.first(3, 1), 0);
        check.due("i 3", x.first(240, 3), -1);
        check.due("i -1", x.first(240, -1), -1);
        check.due("hours 0", x.first(0, 0), -1);
        check.due("hours 241", x.first(241, 0), -1);
        for (int wild : WILD) {
            check.due("wild first", x.first(wild, 0), -1);
            check.due("wild first", x.first(8, wild), -1);
        }
        FrostLocks y = check.told("ice 0-stove;cell a stove 1;door a to out thick 3;door a to out thick 2;"
            + "door a to out thick 3;door a to out thick 0;door a to out thick 2;");
        int[] equal = {3, 1, 4, 0, 2};
        for (int i = 0; i < 5; i++) {
            check.due("equal " + i, y.first(240, i), equal[i]);
        }
    }

    private void enough() {
        // Freezing needs water; without it a door loses one an hour.
        String two = "ice (0<water)*20-1;cell a stove 0;door a to out thick 2;door a to out thick 1;";
        FrostLocks x = check.told(two);
        check.due("one hour", x.enough(0, 1), 0);
        check.due("second first", x.first(5, 0), 1);
        check.due("with water", x.enough(3, 2), 1);
        FrostLocks y = check.told("ice 4-stove;cell a stove 5;door a to out thick 2;door a to out thick 1;");
        check.due("hours 1", y.enough(99, 1), 0);
        FrostLocks z = check.told("weather hour-2;ice 0-degrees;cell a stove 0;door a to out thick 1;"
            + "door a to out thick 1;door a to out thick 2;");
        // 2 and 1 freeze, then 0, then 1, 2, 3 melt.
        check.due("three hours", z.enough(0, 3), 1);
        check.due("four hours", z.enough(0, 4), 0);
        // Only in its first two hours does water become ice, so the third door in order is too late.
        check.due("door 2 is last", z.first(5, 2), 2);
        check.due("four hours with water", z.enough(5, 4), 1);
        check.due("five hours with water", z.enough(5, 5), 0);
        check.due("water -1", z.enough(-1, 4), -1);
        check.due("water 100", z.enough(100, 4), -1);
        check.due("hours 0", z.enough(5, 0), -1);
        check.due("hours 241", z.enough(5, 241), -1);
        for (int wild : WILD) {
            check.due("wild enough", z.enough(wild, 4), -1);
            check.due("wild enough", z.enough(5, wild), -1);
        }
        check.due("all is as ahead", z.door(0, 1), 0);
        // Now it may be loose.
        FrostLocks w = check.told("ice 9;cell a stove 0;door a to out thick 0;");
        check.due("loose now", w.enough(1, 240), 1);
        check.due("no water", w.enough(0, 1), 0);
        // Each is poured once.
        FrostLocks v = check.told("ice 0-(water<9);cell a stove 0;door a to out thick 3;");
        check.due("once is not enough", v.enough(5, 12), 0);
        check.due("once is enough", v.enough(9, 12), 1);
    }

    private void plan() {
        FrostLocks x = check.told("cell a stove 0;cell b stove 0;cell c stove 0;cell d stove 0;door a to out thick 11;"
            + "door b to out thick 1;door a to b thick 5;door c to a thick 0;door b to c thick 6;"
            + "man m in a salt 0 waits 0;man n in c salt 0 waits 0;man o in d salt 0 waits 0;man p in b salt 0 waits 0;");
        // a: 3 straight, or 1 + 1 by b.
        int[][] want = {{2, 2, 2, 1, -1}, {2, 3, 3, 2, 1, -1}, {-1, -1, -1}, {1, 1, 1, -1}};
        for (int man = 0; man < want.length; man++) {
            for (int what = 0; what < want[man].length; what++) {
                check.due("plan " + man + " " + what, x.plan(man, what), want[man][what]);
            }
        }
        check.due("what -1", x.plan(0, -1), -1);
        check.due("no man", x.plan(4, 0), -1);
        for (int wild : WILD) {
            check.due("wild plan", x.plan(wild, 0), -1);
            check.due("wild plan", x.plan(0, wild), -1);
        }
        x.pardon(0);
        check.due("free", x.plan(0, 0), -1);
        // Of equal ones the fewest doors, then the first.
        FrostLocks y = check.told("cell a stove 0;cell b stove 0;cell c stove 0;door c to a thick 5;door c to b thick 4;"
            + "door a to out thick 3;door b to out thick 5;door b to out thick 1;door c to out thick 10;"
            + "man m in c salt 0 waits 0;");
        check.due("fewest doors", y.plan(0, 1), 1);
        check.due("fewest doors", y.plan(0, 2), 5);
        FrostLocks z = check.told("cell a stove 0;cell b stove 0;cell c stove 0;door b to out thick 1;"
            + "door c to b thick 4;door c to a thick 5;door a to out thick 3;door b to out thick 5;"
            + "man m in c salt 0 waits 0;");
        check.due("salt", z.plan(0, 0), 2);
        check.due("the first", z.plan(0, 2), 1);
        check.due("the first", z.plan(0, 3), 0);
        StringBuilder row = new StringBuilder();
        for (char cell = 'a'; cell <= 'h'; cell++) {
            row.append("cell ").append(cell).append(" stove 0;");
        }
        row.append("door a to b thick 1;door b to c thick 6;door c to d thick 1;door d to e thick 1;");
        row.append("door e to f thick 1;door f to g thick 1;door g to h thick 1;door h to out thick 96;");
        FrostLocks w = check.told(row + "man m in a salt 0 waits 0;");
        check.due("the whole row's salt", w.plan(0, 0), 28);
        check.due("the whole row's doors", w.plan(0, 1), 8);
        check.due("the whole row's far", w.cell(0, 3), 8);
        for (int i = 0; i < 8; i++) {
            check.due("the row's door " + i, w.plan(0, 2 + i), i);
        }
        check.due("behind the row", w.plan(0, 10), -1);
    }

    private void escape() {
        FrostLocks x = check.told("ice 0-1;cell a stove 0;cell b stove 0;cell c stove 0;door a to out thick 5;"
            + "door b to a thick 1;man m in b salt 0 waits 0;man n in c salt 0 waits 0;man o in a salt 0 waits 1;");
        check.due("m", x.escape(0, 240), 5);
        check.due("m in time", x.escape(0, 5), 5);
        check.due("m too late", x.escape(0, 4), -1);
        check.due("n never", x.escape(1, 240), -1);
        check.due("o", x.escape(2, 240), 25);
        check.due("hours 0", x.escape(0, 0), -1);
        check.due("hours 241", x.escape(0, 241), -1);
        check.due("no man", x.escape(3, 5), -1);
        for (int wild : WILD) {
            check.due("wild escape", x.escape(wild, 5), -1);
            check.due("wild escape", x.escape(0, wild), -1);
        }
        check.due("all is as ahead", x.man(0, 0), 1);
        x.pardon(0);
        check.due("free already", x.escape(0, 240), -1);
    }

    private void salted() {
        FrostLocks x = check.told("weather 0-4;ice 0-degrees-salt*4-breath;cell a stove 0;cell b stove 0;"
            + "door a to out thick 20;door a to b thick 20;door b to out thick 20;man m in a salt 9 waits 0;");
        check.due("none", x.salted(1), 0);
        x.salt(0, 0);
        x.salt(0, 0);
        x.salt(0, 1);
        check.due("not yet", x.salted(1), 0);
        x.hours(1);
        // 4 - 8 - 1 and 4 - 4 - 1: bare nothing melts.
        check.due("door 0", x.door(0, 0), 15);
        check.due("door 1", x.door(1, 0), 19);
        check.due("by 1", x.salted(1), 3);
        check.due("by 2", x.salted(2), 1);
        check.due("by 5", x.salted(5), 1);
        check.due("by 6", x.salted(6), 0);
        x.hours(1);
        check.due("less again", x.salted(6), 1);
        check.due("no less than that", x.salted(7), 0);
        check.due("frozen again", x.salted(1), 1);
        x.hours(2);
        check.due("all frozen again", x.salted(1), 0);
        check.due("less 0", x.salted(0), -1);
        check.due("less 99", x.salted(99), 0);
        check.due("less 100", x.salted(100), -1);
        for (int wild : WILD) {
            check.due("wild salted", x.salted(wild), -1);
        }
        // Water that is poured comes to both.
        FrostLocks y = check.told("ice 5-salt*9;cell a stove 0;door a to out thick 10;man m in a salt 2 waits 99;");
        y.salt(0, 0);
        y.pour(0, 30);
        y.hours(1);
        check.due("ice", y.door(0, 0), 6);
        check.due("by 9", y.salted(9), 1);
        check.due("by 10", y.salted(10), 0);
        check.tell(y, "ice 5-salt*9;cell a stove 0;door a to out thick 10;man m in a salt 2 waits 99;");
        check.due("told anew", y.salted(1), 0);
        // What salt took is less for good where nothing freezes.
        FrostLocks w = check.told("ice 0-salt*7;cell a stove 0;door a to out thick 30;man m in a salt 1 waits 99;");
        w.salt(0, 0);
        w.hours(200);
        check.due("for good", w.salted(7), 1);
        check.due("for good", w.salted(8), 0);
        // What melted bare as well is not counted.
        FrostLocks z = check.told("ice 0-20-salt;cell a stove 0;door a to out thick 10;man m in a salt 2 waits 99;");
        z.salt(0, 0);
        z.hours(1);
        check.due("both are loose", z.salted(1), 0);
    }

    private void beside() {
        FrostLocks x = check.told("ice 0;cell a stove 0;cell b stove 0;cell c stove 0;door a to b thick 9;"
            + "door b to c thick 0;door c to out thick 0;man m in a salt 9 waits 0;man n in b salt 9 waits 0;"
            + "man o in c salt 9 waits 1;man p in a salt 0 waits 0;");
        check.due("no salt", x.beside(0), -1);
        x.salt(0, 0);
        check.due("m, n and p", x.beside(0), 11);
        check.due("the others", x.beside(1), -1);
        x.hours(1);
        check.due("n went", x.man(1, 0), 2);
        x.salt(0, 0);
        check.due("the first time", x.beside(0), 11);
        x.salt(2, 2);
        check.due("n and o", x.beside(2), 6);
        x.pardon(1);
        x.salt(2, 1);
        check.due("free men are beside none", x.beside(1), 4);
        check.due("no door", x.beside(3), -1);
        for (int wild : WILD) {
            check.due("wild beside", x.beside(wild), -1);
        }
    }

    private void thaw() {
        FrostLocks x = check.told("weather hour-20;mild 20;");
        check.due("thaw", x.thaw(240), 20);
        check.due("in time", x.thaw(20), 20);
        check.due("too late", x.thaw(19), -1);
        check.due("hours 0", x.thaw(0), -1);
        check.due("hours 241", x.thaw(241), -1);
        for (int wild : WILD) {
            check.due("wild thaw", x.thaw(wild), -1);
        }
        x.hours(20);
        check.due("now", x.thaw(1), 0);
        x.hours(4);
        check.due("tomorrow", x.thaw(240), 20);
        check.due("mild is 0", check.told("weather mild-1;mild 20;").thaw(240), -1);
        check.due("without a line", check.told("mild 20;").thaw(240), -1);
        check.due("0 thaws", check.told("weather 0;").thaw(1), 0);
        check.due("in 240", check.told("weather day*24+hour-240;").thaw(240), 240);
    }

    private void amnesty() {
        StringBuilder text = new StringBuilder("cell a stove 0;");
        for (int i = 0; i < 6; i++) {
            text.append("man ").append((char) ('b' + i)).append(" in a salt 0 waits 0;");
        }
        FrostLocks x = check.told(text.toString());
        int[][] six = {{0, 1}, {1, 6}, {1, 3}, {1, 2}, {2, 3}, {5, 6}, {1, 1}, {-1, -1}};
        for (int n = 0; n < six.length; n++) {
            check.due(n + " of 6, above", x.amnesty(n, 0), six[n][0]);
            check.due(n + " of 6, below", x.amnesty(n, 1), six[n][1]);
        }
        check.due("what 2", x.amnesty(1, 2), -1);
        check.due("what -1", x.amnesty(1, -1), -1);
        for (int wild : WILD) {
            check.due("wild amnesty", x.amnesty(wild, 0), -1);
            check.due("wild amnesty", x.amnesty(1, wild), -1);
        }
        x.pardon(0);
        x.pardon(5);
        check.due("2 of 4", x.amnesty(2, 1), 2);
        check.due("5 of 4", x.amnesty(5, 0), -1);
        for (int man = 1; man < 5; man++) {
            x.pardon(man);
        }
        check.due("nobody", x.amnesty(0, 0), -1);
        check.due("nobody", x.amnesty(0, 1), -1);
    }

    private void lots() {
        String house = "weather mild-5;ice 0-degrees;mild 10;cell a stove 0;door a to out thick 9;"
            + "man m in a salt 0 waits 0;man n in a salt 0 waits 99;";
        FrostLocks x = check.told(house);
        x.pardon(1);
        for (int seed : new int[] {0, 1, 77, 9999}) {
            int[] want = drawn(seed, 20, 120);
            check.due("men by " + seed, x.lots(seed, 20, 120, 0), want[0]);
            check.due("hours by " + seed, x.lots(seed, 20, 120, 1), want[1]);
            check.due("one by " + seed, x.lots(seed, 1, 1, 1), drawn(seed, 1, 1)[1]);
            check.due("few by " + seed, x.lots(seed, 20, 8, 0), drawn(seed, 20, 8)[0]);
        }
        int[][] wrong = {{-1, 1, 1, 0}, {10000, 1, 1, 0}, {0, 0, 1, 0}, {0, 21, 1, 0}, {0, 1, 0, 0}, {0, 1, 121, 0},
            {0, 1, 1, 2}, {0, 1, 1, -1}};
        for (int[] w : wrong) {
            check.due("wrong lots", x.lots(w[0], w[1], w[2], w[3]), -1);
        }
        for (int wild : WILD) {
            check.due("wild lots", x.lots(wild, 1, 1, 0), -1);
            check.due("wild lots", x.lots(0, wild, 1, 0), -1);
            check.due("wild lots", x.lots(0, 1, wild, 0), -1);
            check.due("wild lots", x.lots(0, 1, 1, wild), -1);
        }
        check.due("all is as ahead", x.count(4), 0);
        check.due("all is as ahead", x.door(0, 0), 9);
        check.due("mild is 0 again", x.degrees(0), -5);
    }

    /** The one door of that house, drawn by hand: men that are free, hours behind which it was loose. */
    private static int[] drawn(int seed, int many, int hours) {
        long g = seed;
        int men = 0;
        int loose = 0;
        for (int i = 0; i < many; i++) {
            int ice = 9;
            boolean free = false;
            for (int j = 0; j < hours; j++) {
                g = (g * 1103515245L + 12345L) % (1L << 31);
                int frost = 5 - (int) ((g >> 16) % 11);
                ice = Math.max(0, Math.min(9, ice + frost));
                free |= ice == 0;
                loose += ice == 0 ? 1 : 0;
            }
            men += free ? 2 : 1;
        }
        return new int[] {men, loose};
    }

    private void marks() {
        FrostLocks x = check.told("ice 0-1;mild 3;cell a stove 4;door a to out thick 3;man m in a salt 5 waits 0;");
        for (int mark = 0; mark < 4; mark++) {
            check.due("nothing on it", x.mark(mark, true), false);
        }
        x.pour(0, 7);
        x.salt(0, 0);
        check.due("laid", x.mark(3, false), true);
        check.due("nothing on another", x.mark(2, true), false);
        x.hours(30);
        x.stove(0, 9);
        check.due("he is free", x.man(0, 0), -1);
        check.due("laid", x.mark(0, false), true);
        check.tell(x, "cell q stove 1;cell r stove 2;");
        Check.feed(x, "abc");
        check.due("marks stay", x.mark(3, true), true);
        check.due("mild", x.count(6), 3);
        check.due("hour", x.count(4), 0);
        check.due("cells", x.count(0), 1);
        check.due("stove", x.cell(0, 0), 4);
        check.due("ice", x.door(0, 0), 3);
        check.due("water", x.door(0, 1), 7);
        check.due("salt", x.door(0, 2), 1);
        check.due("his cell", x.man(0, 0), 0);
        check.due("his salt", x.man(0, 1), 4);
        check.due("beside", x.beside(0), 1);
        check.due("the tape is no part of it", x.count(7), 3);
        x.hours(1);
        check.due("back again", x.mark(3, true), true);
        check.due("as it was laid", x.door(0, 0), 3);
        check.due("to the other", x.mark(0, true), true);
        check.due("hour", x.count(4), 30);
        check.due("stove", x.cell(0, 0), 9);
        check.due("laid over", x.mark(3, false), true);
        check.due("back", x.mark(3, true), true);
        check.due("hour", x.count(4), 30);
        for (int wild : new int[] {-1, 4, Integer.MIN_VALUE, Integer.MAX_VALUE}) {
            check.due("wild mark", x.mark(wild, false), false);
            check.due("wild mark", x.mark(wild, true), false);
        }
        FrostLocks y = new FrostLocks();
        check.due("laid on a new one", y.mark(1, false), true);
        check.tell(y, "cell q stove 1;");
        check.due("back", y.mark(1, true), true);
        check.due("no cell", y.count(0), 0);
    }
}
