/** Promises 4 to 12: cells, doors, men, degrees, what is done by hand, and hours. */
public final class HoursTest {
    private static final int[] WILD = {-1, 100, Integer.MIN_VALUE, Integer.MAX_VALUE};
    private static final String HOUSE = "cell a stove 2;cell b stove 3;cell c stove 0;door a to out thick 10;"
        + "door b to a thick 4;man m in b salt 1 waits 0;man n in a salt 0 waits 1;guard c a;guard c;";

    private final Check check = new Check();

    public static void main(String[] args) {
        HoursTest test = new HoursTest();
        test.looking();
        test.pouring();
        test.freezing();
        test.frostLaw();
        test.salting();
        test.stovesAndPardons();
        test.going();
        test.guards();
        test.choosing();
        test.passing();
        test.check.end();
    }

    private void lock(FrostLocks x, int door, int ice, int water, int salt) {
        check.due("ice of " + door + " in " + x.count(4), x.door(door, 0), ice);
        check.due("water of " + door + " in " + x.count(4), x.door(door, 1), water);
        check.due("salt of " + door + " in " + x.count(4), x.door(door, 2), salt);
    }

    private void looking() {
        FrostLocks x = check.told(HOUSE);
        int[][] cells = {{2, 2, 0, 1}, {3, 1, 0, 2}, {0, 0, 2, -1}};
        for (int cell = 0; cell < 3; cell++) {
            for (int what = 0; what < 4; what++) {
                check.due("cell " + cell + " " + what, x.cell(cell, what), cells[cell][what]);
            }
            check.due("cell's other", x.cell(cell, 4), -1);
            check.due("cell's other", x.cell(cell, -1), -1);
        }
        check.due("no cell", x.cell(3, 0), -1);
        check.due("door's cell", x.door(1, 3), 1);
        check.due("door's other", x.door(1, 4), 0);
        check.due("door to outside", x.door(0, 4), -1);
        check.due("nothing such", x.door(0, 5), -1);
        check.due("nothing such", x.door(0, -1), -1);
        check.due("no door", x.door(2, 0), -1);
        check.due("man's cell", x.man(0, 0), 1);
        check.due("man's salt", x.man(0, 1), 1);
        check.due("man's day", x.man(1, 2), 1);
        check.noMan(x, 2, 0);
        check.noMan(x, 0, 3);
        check.noMan(x, 0, -1);
        for (int wild : WILD) {
            check.due("wild cell", x.cell(wild, 0), -1);
            check.due("wild door", x.door(wild, 0), -1);
            check.noMan(x, wild, 0);
            check.noMan(x, 0, wild);
        }
        x.hours(1);
        check.due("guards in a", x.cell(0, 2), 1);
        check.due("guards in c", x.cell(2, 2), 1);
    }

    private void pouring() {
        FrostLocks x = check.told(HOUSE);
        check.due("pour 0", x.pour(0, 0), 0);
        check.due("pour 50", x.pour(0, 50), 50);
        check.due("pour 99", x.pour(0, 99), 39);
        check.due("pour more", x.pour(0, 1), 0);
        check.due("full", x.door(0, 1), 89);
        check.due("pour 100", x.pour(1, 100), -1);
        check.due("pour -1", x.pour(1, -1), -1);
        check.due("no door", x.pour(2, 1), -1);
        check.due("the other one", x.door(1, 1), 0);
        for (int wild : WILD) {
            check.due("wild pour", x.pour(wild, 1), -1);
        }
    }

    private void freezing() {
        // Without lines: 10 - stove - breath.
        FrostLocks x = check.told(HOUSE);
        x.pour(0, 89);
        x.hours(1);
        lock(x, 0, 17, 82, 0);
        lock(x, 1, 4, 0, 0);
        x.hours(1);
        // The guard's breath in a takes one.
        lock(x, 0, 23, 76, 0);
        x.stove(0, 9);
        x.stove(1, 9);
        x.hours(1);
        // 10 - 9 - 1 and 10 - 18 - 2.
        lock(x, 0, 23, 76, 0);
        lock(x, 1, 0, 4, 0);
        check.due("m went to a", x.man(0, 0), 0);
    }

    private void frostLaw() {
        FrostLocks x = check.told("ice 99;cell a stove 0;door a to out thick 5;");
        x.pour(0, 50);
        x.hours(1);
        lock(x, 0, 25, 30, 0);
        x.hours(2);
        lock(x, 0, 55, 0, 0);
        FrostLocks y = check.told("ice 0-99;cell a stove 0;door a to out thick 50;");
        y.hours(1);
        lock(y, 0, 30, 20, 0);
        y.hours(2);
        lock(y, 0, 0, 50, 0);
        FrostLocks z = check.told("weather 7;ice degrees*0-1+ice*0+water;cell a stove 0;door a to out thick 50;");
        z.hours(1);
        lock(z, 0, 49, 1, 0);
        z.hours(1);
        lock(z, 0, 49, 1, 0);
        z.pour(0, 10);
        z.hours(1);
        lock(z, 0, 59, 1, 0);
        FrostLocks v = check.told("ice 3*(ice<9)-(9<ice);cell a stove 0;door a to out thick 5;");
        v.pour(0, 90);
        v.hours(2);
        lock(v, 0, 11, 84, 0);
        v.hours(1);
        lock(v, 0, 10, 85, 0);
        FrostLocks w = check.told("weather hour+11;ice degrees-stove*2;cell a stove 1;cell b stove 2;"
            + "door a to b thick 0;door b to out thick 0;");
        w.pour(0, 50);
        w.pour(1, 50);
        w.hours(1);
        lock(w, 0, 5, 45, 0);
        lock(w, 1, 7, 43, 0);
        w.hours(1);
        lock(w, 0, 11, 39, 0);
        lock(w, 1, 15, 35, 0);
    }

    private void salting() {
        FrostLocks x = check.told("weather 0;cell a stove 0;cell b stove 0;cell c stove 0;door a to b thick 30;"
            + "door b to c thick 30;man m in a salt 3 waits 0;man n in b salt 1 waits 0;man o in c salt 1 waits 0;");
        check.due("not of his cell", x.salt(0, 1), false);
        check.due("not of his cell", x.salt(2, 0), false);
        check.due("lays", x.salt(0, 0), true);
        check.due("lays again", x.salt(0, 0), true);
        check.due("he has one", x.man(0, 1), 1);
        check.due("the other side", x.salt(1, 0), true);
        check.due("he has none", x.salt(1, 0), false);
        check.due("the other side", x.salt(2, 1), true);
        lock(x, 0, 30, 0, 3);
        x.hours(1);
        // 0 - 3 * 3 - 2 men.
        lock(x, 0, 19, 11, 2);
        lock(x, 1, 25, 5, 0);
        x.hours(3);
        lock(x, 0, 19 - 8 - 5 - 2, 26, 0);
        check.due("no door", x.salt(0, 2), false);
        check.due("no man", x.salt(3, 0), false);
        for (int wild : WILD) {
            check.due("wild salt", x.salt(wild, 0), false);
            check.due("wild salt", x.salt(0, wild), false);
        }
        x.pardon(0);
        check.due("free men lay none", x.salt(0, 0), false);
        check.due("he keeps it", x.man(0, 1), 1);
    }

    private void stovesAndPardons() {
        FrostLocks x = check.told(HOUSE);
        check.due("stove 9", x.stove(0, 9), true);
        check.due("stove 10", x.stove(0, 10), false);
        check.due("stove -1", x.stove(0, -1), false);
        check.due("stove stays", x.cell(0, 0), 9);
        check.due("stove 0", x.stove(0, 0), true);
        check.due("stove is 0", x.cell(0, 0), 0);
        check.due("no cell", x.stove(3, 0), false);
        check.due("pardon", x.pardon(1), true);
        check.due("pardon again", x.pardon(1), false);
        check.due("he is free", x.man(1, 0), -1);
        check.due("not there", x.cell(0, 1), 0);
        check.due("no man", x.pardon(2), false);
        for (int wild : WILD) {
            check.due("wild stove", x.stove(wild, 1), false);
            check.due("wild pardon", x.pardon(wild), false);
        }
    }

    private void going() {
        String two = "ice 0;cell a stove 0;cell b stove 0;";
        FrostLocks x = check.told(two + "door a to out thick 0;door a to b thick 0;man m in b salt 0 waits 0;");
        x.hours(1);
        check.due("one door an hour, from either side", x.man(0, 0), 0);
        x.hours(1);
        check.due("out", x.man(0, 0), -1);
        FrostLocks y = check.told(two + "door a to out thick 1;door b to a thick 0;man m in b salt 0 waits 1;"
            + "man n in a salt 0 waits 0;");
        x.hours(1);
        y.hours(24);
        check.due("he waits", y.man(0, 0), 1);
        check.due("a door that is not loose", y.man(1, 0), 0);
        y.hours(1);
        check.due("his day has come", y.man(0, 0), 0);
        y.hours(100);
        check.due("he does not go back", y.man(0, 0), 0);
        FrostLocks z = check.told(two + "door a to b thick 0;man m in b salt 0 waits 0;");
        z.hours(50);
        check.due("no way, so he stays", z.man(0, 0), 1);
        check.due("no way", z.cell(1, 3), -1);
        // Ice that melts in an hour lets him go in that hour.
        FrostLocks w = check.told("ice 0-1;cell a stove 0;door a to out thick 2;man m in a salt 0 waits 0;");
        w.hours(1);
        check.due("not yet", w.man(0, 0), 0);
        w.hours(1);
        check.due("now", w.man(0, 0), -1);
        // His breath counts by where he was at the beginning.
        FrostLocks v = check.told("ice 5-breath*2;cell a stove 0;door a to out thick 0;door a to out thick 9;"
            + "man m in a salt 0 waits 0;");
        v.pour(1, 20);
        v.hours(1);
        check.due("gone", v.count(5), 0);
        check.due("by his breath", v.door(1, 0), 12);
        v.hours(1);
        check.due("without", v.door(1, 0), 17);
    }

    private void guards() {
        String two = "ice 0;cell a stove 0;cell b stove 0;cell c stove 0;door a to out thick 0;door b to a thick 0;";
        FrostLocks x = check.told(two + "man m in a salt 0 waits 0;guard a a c;");
        x.hours(2);
        check.due("a guard in his cell", x.man(0, 0), 0);
        x.hours(1);
        check.due("the guard is gone", x.man(0, 0), -1);
        FrostLocks y = check.told(two + "man m in b salt 0 waits 0;guard c;guard a c;");
        y.hours(1);
        check.due("a guard in that place", y.man(0, 0), 1);
        y.hours(1);
        check.due("the guard is gone", y.man(0, 0), 0);
        check.due("the guard is back", y.cell(0, 2), 1);
        y.hours(1);
        check.due("and holds him", y.man(0, 0), 0);
        y.hours(1);
        check.due("once", y.man(0, 0), -1);
        FrostLocks w = check.told("cell a stove 0;cell b stove 0;guard a a a a a a a b;guard b b b b b b b a;");
        for (int hour = 0; hour < 17; hour++) {
            check.due("guards in a in " + hour, w.cell(0, 2), 1);
            check.due("guards in b in " + hour, w.cell(1, 2), 1);
            w.hours(1);
        }
        FrostLocks z = check.told("ice 9-breath;cell a stove 0;cell b stove 0;door a to b thick 0;guard a b;guard b;");
        z.pour(0, 99);
        z.hours(1);
        check.due("two breaths", z.door(0, 0), 7);
    }

    private void choosing() {
        String four = "ice 0;cell a stove 0;cell b stove 0;cell c stove 0;cell d stove 0;door a to out thick 9;"
            + "door b to out thick 9;";
        FrostLocks x = check.told(four + "door c to b thick 0;door c to a thick 0;man m in c salt 0 waits 0;");
        x.hours(1);
        check.due("of equal ones the first", x.man(0, 0), 1);
        FrostLocks y = check.told(four + "door c to b thick 1;door c to a thick 0;man m in c salt 0 waits 0;");
        y.hours(1);
        check.due("the loose one", y.man(0, 0), 0);
        FrostLocks z = check.told(four + "door c to b thick 0;door d to c thick 0;door d to out thick 9;"
            + "door d to a thick 0;man m in d salt 0 waits 0;");
        check.due("far", z.cell(3, 3), 1);
        z.hours(5);
        check.due("none leads nearer", z.man(0, 0), 3);
        FrostLocks w = check.told(four + "door c to b thick 0;door c to out thick 0;man m in c salt 0 waits 0;");
        w.hours(1);
        check.due("the nearest", w.man(0, 0), -1);
        FrostLocks v = check.told(four + "door c to b thick 0;door c to a thick 0;man m in c salt 0 waits 0;guard b;");
        v.hours(1);
        check.due("past the guard", v.man(0, 0), 0);
    }

    private void passing() {
        FrostLocks x = check.told(HOUSE);
        check.due("hours 0", x.hours(0), -1);
        check.due("hours 1001", x.hours(1001), -1);
        for (int wild : new int[] {-1, Integer.MIN_VALUE, Integer.MAX_VALUE}) {
            check.due("wild hours", x.hours(wild), -1);
        }
        check.due("none passed", x.count(4), 0);
        check.due("hours 1", x.hours(1), 1);
        check.due("hours 1000", x.hours(1000), 1001);
        FrostLocks y = check.told("weather hour;");
        check.due("degrees are not kept below", y.degrees(23), 23);
        check.due("degrees behind", y.hours(5), 5);
        check.due("now", y.degrees(0), 5);
        check.due("ahead", y.degrees(20), 1);
    }
}
