/** The edges of degrees, of what freezes in an hour, and of what is done by hand. */
public final class FrostTest {
    private final Check check = new Check();

    public static void main(String[] args) {
        FrostTest test = new FrostTest();
        test.degreesAtMost();
        test.degreesWithoutALine();
        test.hourAndDay();
        test.degreesAhead();
        test.frostAtMost();
        test.frostWithoutALine();
        test.degreesThatIceSees();
        test.waterAsFarAsThereIsSome();
        test.iceAsFarAsThereIsSome();
        test.neitherComesNorGoes();
        test.oneSaltIsGone();
        test.asAtTheBeginning();
        test.eachDoorByItself();
        test.ninetyNineTogether();
        test.asFarAsThereIsRoom();
        test.looseWithoutIce();
        test.stoves();
        test.saltByHand();
        test.pardons();
        test.hoursAreCounted();
        test.hoursOneByOne();
        test.check.end();
    }

    private void lock(String name, FrostLocks x, int door, int ice, int water) {
        check.due(name + ": ice", x.door(door, 0), ice);
        check.due(name + ": water", x.door(door, 1), water);
    }

    private FrostLocks oneDoor(String laws, int thick, int water) {
        FrostLocks x = check.told(laws + "cell a stove 0;door a to out thick " + thick + ";");
        check.due("poured", x.pour(0, water), water);
        return x;
    }

    /** "-40 below it, 40 above". */
    private void degreesAtMost() {
        int[][] rows = {{39, 39}, {40, 40}, {41, 40}, {9999, 40}};
        for (int[] row : rows) {
            check.due("weather " + row[0], check.told("weather " + row[0] + ";").degrees(0), row[1]);
            check.due("weather -" + row[0], check.told("weather 0-" + row[0] + ";").degrees(0), -row[1]);
        }
        check.due("the least int", check.told("weather 256*256*256*128;").degrees(0), -40);
        check.due("the greatest int", check.told("weather 256*256*256*128-1;").degrees(0), 40);
    }

    /** "without a line -10", at any time. */
    private void degreesWithoutALine() {
        FrostLocks x = check.told("ice 3;mild 20;cell a stove 9;");
        check.due("now", x.degrees(0), -10);
        check.due("later", x.degrees(9999), -10);
        x.hours(1000);
        check.due("behind a thousand", x.degrees(0), -10);
        check.tell(x, "weather 3;");
        check.due("with a line", x.degrees(0), 3);
        check.tell(x, "mild 3;");
        check.due("without one again", x.degrees(0), -10);
    }

    /** "hour: the HOUR modulo 24, day: by 24, cut". */
    private void hourAndDay() {
        FrostLocks x = check.told("weather day*10+(hour=23)-(hour=0);");
        int[][] rows = {{0, -1}, {1, 0}, {22, 0}, {23, 1}, {24, 9}, {25, 10}, {47, 11}, {48, 19}, {71, 21}, {72, 29}};
        for (int[] row : rows) {
            check.due("behind " + row[0], x.degrees(row[0]), row[1]);
        }
        x.hours(23);
        check.due("in 23", x.degrees(0), 1);
        x.hours(1);
        check.due("in 24", x.degrees(0), 9);
        x.hours(24);
        check.due("in 48", x.degrees(0), 19);
    }

    /** Degrees behind so many hours are what they are then. */
    private void degreesAhead() {
        FrostLocks x = check.told("weather hour*2-day;");
        FrostLocks y = check.told("weather hour*2-day;");
        for (int hours = 0; hours < 60; hours++) {
            check.due("behind " + hours, x.degrees(hours), y.degrees(0));
            y.hours(1);
        }
        check.due("asked, no hour is gone", x.count(4), 0);
    }

    /** "20 at most either way". */
    private void frostAtMost() {
        int[][] rows = {{19, 19}, {20, 20}, {21, 20}, {9999, 20}};
        for (int[] row : rows) {
            FrostLocks x = oneDoor("ice " + row[0] + ";", 30, 40);
            x.hours(1);
            lock("ice " + row[0], x, 0, 30 + row[1], 40 - row[1]);
            FrostLocks y = oneDoor("ice 0-" + row[0] + ";", 30, 40);
            y.hours(1);
            lock("ice -" + row[0], y, 0, 30 - row[1], 40 + row[1]);
        }
        FrostLocks least = oneDoor("ice 256*256*256*128;", 30, 40);
        least.hours(1);
        lock("the least int", least, 0, 10, 60);
        FrostLocks most = oneDoor("ice 256*256*256*128-1;", 30, 40);
        most.hours(1);
        lock("the greatest int", most, 0, 50, 20);
    }

    /** "without a line 0 - degrees - stove - salt * 3 - breath", and no more than 20 of it either. */
    private void frostWithoutALine() {
        String two = "cell a stove 2;cell b stove 3;door a to b thick 40;man m in a salt 9 waits 9;guard b b b;";
        FrostLocks x = check.told("weather 0-19;" + two);
        x.pour(0, 59);
        x.salt(0, 0);
        x.salt(0, 0);
        x.hours(1);
        // 19 - 5 - 6 - 2, then 19 - 5 - 3 - 2, then without salt.
        lock("first", x, 0, 46, 53);
        x.hours(1);
        lock("second", x, 0, 55, 44);
        x.hours(1);
        lock("third", x, 0, 67, 32);
        FrostLocks cold = oneDoor("weather 0-40;", 10, 60);
        cold.hours(1);
        lock("cold", cold, 0, 30, 40);
        FrostLocks warm = oneDoor("weather 40;", 50, 10);
        warm.hours(1);
        lock("warm", warm, 0, 30, 30);
        FrostLocks none = oneDoor("", 10, 60);
        none.hours(1);
        lock("without both lines", none, 0, 20, 50);
    }

    /** The ice's degrees are those at most 40 either way. */
    private void degreesThatIceSees() {
        FrostLocks x = oneDoor("weather 9999;ice degrees-30;", 0, 99);
        x.hours(1);
        lock("40", x, 0, 10, 89);
        FrostLocks y = oneDoor("weather 0-9999;ice degrees+45;", 0, 99);
        y.hours(1);
        lock("-40", y, 0, 5, 94);
    }

    /** "so much water becomes ice, as far as there is some". */
    private void waterAsFarAsThereIsSome() {
        int[][] rows = {{0, 0}, {1, 1}, {6, 6}, {7, 7}, {8, 7}, {50, 7}};
        for (int[] row : rows) {
            FrostLocks x = oneDoor("ice 7;", 3, row[0]);
            x.hours(1);
            lock("of " + row[0] + " water", x, 0, 3 + row[1], row[0] - row[1]);
        }
    }

    /** "if it is below 0 ice becomes water", and no more than there is. */
    private void iceAsFarAsThereIsSome() {
        int[][] rows = {{0, 0}, {1, 1}, {6, 6}, {7, 7}, {8, 7}, {50, 7}};
        for (int[] row : rows) {
            FrostLocks x = oneDoor("ice 0-7;", row[0], 3);
            x.hours(1);
            lock("of " + row[0] + " ice", x, 0, row[0] - row[1], 3 + row[1]);
        }
    }

    private void neitherComesNorGoes() {
        FrostLocks x = oneDoor("weather hour-12;ice 0-degrees*2;", 60, 39);
        FrostLocks y = oneDoor("ice 0;", 60, 39);
        for (int i = 0; i < 60; i++) {
            x.hours(1);
            check.due("together", x.door(0, 0) + x.door(0, 1), 99);
        }
        y.hours(1000);
        lock("by nought", y, 0, 60, 39);
    }

    /** "Then of salt that lies there one is gone", as far as some lies there. */
    private void oneSaltIsGone() {
        FrostLocks x = check.told("ice 0-salt;cell a stove 0;door a to out thick 90;door a to out thick 90;"
            + "man m in a salt 9 waits 9;");
        x.salt(0, 0);
        x.salt(0, 0);
        x.salt(0, 0);
        x.salt(0, 1);
        int[][] rows = {{3, 90}, {2, 87}, {1, 85}, {0, 84}, {0, 84}, {0, 84}};
        int[][] others = {{1, 90}, {0, 89}, {0, 89}, {0, 89}, {0, 89}, {0, 89}};
        for (int i = 0; i < rows.length; i++) {
            check.due("salt in " + i, x.door(0, 2), rows[i][0]);
            check.due("ice in " + i, x.door(0, 0), rows[i][1]);
            check.due("other salt in " + i, x.door(1, 2), others[i][0]);
            check.due("other ice in " + i, x.door(1, 0), others[i][1]);
            x.hours(1);
        }
        check.due("his is not gone", x.man(0, 1), 5);
        // Salt goes even where nothing thaws.
        FrostLocks y = check.told("ice 9;cell a stove 0;door a to out thick 0;man m in a salt 9 waits 9;");
        y.salt(0, 0);
        y.hours(1);
        check.due("gone all the same", y.door(0, 2), 0);
    }

    /** "All by where all are at the HOUR's beginning": breath of men who go and of guards on rounds. */
    private void asAtTheBeginning() {
        String house = "ice breath*3;cell a stove 0;cell b stove 0;door a to out thick 0;door b to a thick 0;"
            + "door b to out thick 9;";
        FrostLocks x = check.told(house + "man m in a salt 0 waits 0;man n in a salt 0 waits 9;");
        x.pour(2, 90);
        x.hours(1);
        check.due("m is gone", x.man(0, 0), -1);
        x.pour(1, 90);
        x.hours(1);
        check.due("one is left", x.door(1, 0), 3);
        FrostLocks y = check.told("ice breath*3;cell a stove 0;cell b stove 0;door a to out thick 1;"
            + "door b to out thick 1;guard a b;");
        y.pour(0, 90);
        y.pour(1, 90);
        y.hours(1);
        check.due("the guard was in a", y.door(0, 0), 4);
        check.due("and not in b", y.door(1, 0), 1);
        y.hours(1);
        check.due("then he was not in a", y.door(0, 0), 4);
        check.due("but in b", y.door(1, 0), 4);
        // A lock's own ice and water are those of the beginning as well.
        FrostLocks z = oneDoor("ice ice-water;", 12, 10);
        z.hours(1);
        lock("12 - 10", z, 0, 14, 8);
        z.hours(1);
        lock("14 - 8", z, 0, 20, 2);
    }

    private void eachDoorByItself() {
        FrostLocks x = check.told("ice water-ice+stove;cell a stove 1;cell b stove 4;door a to out thick 5;"
            + "door b to a thick 9;door b to out thick 30;");
        x.pour(0, 11);
        x.pour(2, 20);
        x.hours(1);
        lock("door 0", x, 0, 12, 4);
        lock("door 1", x, 1, 5, 4);
        lock("door 2", x, 2, 24, 26);
    }

    /** "A lock has ice and water, 99 together at most". */
    private void ninetyNineTogether() {
        for (int thick : new int[] {0, 1, 50, 98, 99}) {
            FrostLocks x = check.told("ice 5;cell a stove 0;door a to out thick " + thick + ";");
            check.due("room beside " + thick, x.pour(0, 99), 99 - thick);
            check.due("no more room", x.pour(0, 99), 0);
            check.due("no more room", x.pour(0, 1), 0);
            lock("full", x, 0, thick, 99 - thick);
            x.hours(30);
            check.due("frozen there is no more either", x.pour(0, 99), 0);
            lock("frozen", x, 0, 99, 0);
        }
    }

    /** "as far as there is room": what went in is told. */
    private void asFarAsThereIsRoom() {
        FrostLocks x = check.told("ice 0-3;cell a stove 0;door a to out thick 90;door a to out thick 90;");
        check.due("none", x.pour(0, 0), 0);
        check.due("eight", x.pour(0, 8), 8);
        check.due("one of two", x.pour(0, 2), 1);
        check.due("none of one", x.pour(0, 1), 0);
        lock("full", x, 0, 90, 9);
        lock("the other", x, 1, 90, 0);
        x.hours(5);
        check.due("ice that melted has room still", x.pour(0, 9), 0);
        check.due("all of nine", x.pour(1, 9), 9);
        check.due("no more", x.pour(1, 9), 0);
    }

    /** "it is LOOSE if it has no ice", with water and without. */
    private void looseWithoutIce() {
        FrostLocks x = check.told("ice 0;cell a stove 0;door a to out thick 0;door a to out thick 0;"
            + "door a to out thick 1;");
        x.pour(1, 99);
        check.due("dry", x.soon(0, 1), 0);
        check.due("wet", x.soon(1, 1), 0);
        check.due("one ice", x.soon(2, 240), -1);
    }

    private void stoves() {
        FrostLocks x = check.told("ice 20-stove;cell a stove 3;cell b stove 9;door a to b thick 0;door a to out thick 0;");
        x.pour(0, 99);
        x.pour(1, 99);
        x.hours(1);
        lock("both", x, 0, 8, 91);
        lock("one", x, 1, 17, 82);
        check.due("0", x.stove(1, 0), true);
        check.due("is 0", x.cell(1, 0), 0);
        check.due("9", x.stove(0, 9), true);
        check.due("is 9", x.cell(0, 0), 9);
        check.due("10", x.stove(0, 10), false);
        check.due("-1", x.stove(0, -1), false);
        check.due("is 9 still", x.cell(0, 0), 9);
        x.hours(1);
        lock("both", x, 0, 19, 80);
        lock("one", x, 1, 28, 71);
    }

    /** "false: others, it is none of his CELL, he has none, is FREE". */
    private void saltByHand() {
        FrostLocks x = check.told("ice 0;cell a stove 0;cell b stove 0;cell c stove 0;door a to b thick 9;"
            + "door b to c thick 9;door c to out thick 9;man m in a salt 1 waits 9;man n in c salt 9 waits 9;"
            + "man o in b salt 0 waits 9;man p in b salt 2 waits 9;");
        check.due("none of his cell", x.salt(0, 1), false);
        check.due("none of his cell", x.salt(0, 2), false);
        check.due("none of his cell", x.salt(1, 0), false);
        check.due("nothing was laid", x.door(1, 2) + x.door(2, 2) + x.door(0, 2), 0);
        check.due("he has none", x.salt(2, 0), false);
        check.due("nothing was laid", x.beside(0), -1);
        check.due("his last", x.salt(0, 0), true);
        check.due("he has none", x.man(0, 1), 0);
        check.due("he has none", x.salt(0, 0), false);
        check.due("one lies there", x.door(0, 2), 1);
        check.due("of the other cell", x.salt(1, 1), true);
        check.due("of the cell", x.salt(1, 2), true);
        check.due("of either", x.salt(3, 0), true);
        check.due("of either", x.salt(3, 1), true);
        check.due("two", x.door(0, 2), 2);
        check.due("two", x.door(1, 2), 2);
        x.pardon(1);
        check.due("free", x.salt(1, 2), false);
        check.due("he keeps it", x.man(1, 1), 7);
        check.due("one lies there", x.door(2, 2), 1);
        for (int i = 0; i < 9; i++) {
            FrostLocks y = check.told("cell a stove 0;door a to out thick 9;man m in a salt " + i + " waits 0;");
            for (int j = 0; j < i; j++) {
                check.due("one of " + i, y.salt(0, 0), true);
            }
            check.due("one more than " + i, y.salt(0, 0), false);
            check.due("all lie there", y.door(0, 2), i);
        }
    }

    /** "PARDONED (he is FREE)"; who is free is not pardoned again. */
    private void pardons() {
        FrostLocks x = check.told("ice breath;cell a stove 0;door a to out thick 0;door a to out thick 1;"
            + "man m in a salt 4 waits 9;man n in a salt 0 waits 0;man o in a salt 0 waits 9;");
        x.pour(1, 50);
        check.due("pardoned", x.pardon(0), true);
        check.due("free", x.man(0, 0), -1);
        check.due("his salt", x.man(0, 1), 4);
        check.due("his day", x.man(0, 2), 9);
        check.due("men there", x.cell(0, 1), 6);
        check.due("held", x.count(5), 2);
        check.due("men", x.count(2), 3);
        check.due("again", x.pardon(0), false);
        x.hours(1);
        check.due("breath of two", x.door(1, 0), 3);
        check.due("n went", x.man(1, 0), -1);
        check.due("who went is free", x.pardon(1), false);
        x.hours(1);
        check.due("breath of one", x.door(1, 0), 4);
        check.due("the last", x.pardon(2), true);
        check.due("nobody", x.count(5), 0);
        check.due("nobody there", x.cell(0, 1), 0);
    }

    /** "the number of the next one". */
    private void hoursAreCounted() {
        FrostLocks x = check.told("cell a stove 0;");
        check.due("one", x.hours(1), 1);
        check.due("a thousand", x.hours(1000), 1001);
        check.due("none", x.hours(0), -1);
        check.due("too many", x.hours(1001), -1);
        check.due("the hour", x.count(4), 1001);
        int hour = 1001;
        for (int i = 0; i < 400; i++) {
            hour += 1000;
            check.due("on and on", x.hours(1000), hour);
        }
        check.due("far on", x.degrees(9999), -10);
    }

    /** So many hours at once are as so many one by one. */
    private void hoursOneByOne() {
        String house = "weather hour-12+day;ice 0-degrees-stove-salt*3-breath;cell a stove 1;cell b stove 0;"
            + "door a to out thick 30;door b to a thick 9;man m in b salt 3 waits 1;man n in a salt 0 waits 2;guard a b b;";
        FrostLocks x = check.told(house);
        FrostLocks y = check.told(house);
        x.salt(0, 1);
        y.salt(0, 1);
        x.hours(60);
        for (int i = 0; i < 60; i++) {
            y.hours(1);
        }
        check.same("sixty", Check.look(x), Check.look(y));
    }
}
