/** Who goes in an hour, and who does not; where guards are; how far it is. */
public final class GoingTest {
    private static final String TWO = "ice 0;cell a stove 0;cell b stove 0;door a to out thick 0;door b to a thick 0;";

    private final Check check = new Check();

    public static void main(String[] args) {
        GoingTest test = new GoingTest();
        test.aDayThatHasJustCome();
        test.everyDay();
        test.aGuardInHisCell();
        test.aGuardInThatPlace();
        test.guardsElsewhere();
        test.roundsByTheHour();
        test.guardsThere();
        test.looseInThatHour();
        test.shutInThatHour();
        test.onlyNearer();
        test.ofEqualOnesTheFirst();
        test.theFirstThatMayBe();
        test.fromEitherSide();
        test.noWay();
        test.far();
        test.oneDoorAnHour();
        test.menOneByOne();
        test.outside();
        test.check.end();
    }

    /** "whose DAY has come (the day is no less than it)": the HOUR ahead of it is none of it. */
    private void aDayThatHasJustCome() {
        FrostLocks x = check.told(TWO + "man m in a salt 0 waits 1;");
        x.hours(23);
        check.due("in 23", x.man(0, 0), 0);
        x.hours(1);
        check.due("behind the last of day 0", x.man(0, 0), 0);
        check.due("it is 24", x.count(4), 24);
        x.hours(1);
        check.due("behind the first of day 1", x.man(0, 0), -1);
    }

    private void everyDay() {
        for (int day : new int[] {0, 1, 2, 3, 98, 99}) {
            FrostLocks x = check.told(TWO + "man m in a salt 0 waits " + day + ";man n in b salt 0 waits " + day + ";");
            for (int passed = 0; passed < day * 24; passed += 24) {
                x.hours(24);
            }
            check.due("ahead of day " + day, x.count(5), 2);
            x.hours(1);
            check.due("m in day " + day, x.man(0, 0), -1);
            check.due("n in day " + day, x.man(1, 0), 0);
        }
        // Days that have long come hold no one.
        FrostLocks y = check.told("ice 0-1;cell a stove 0;door a to out thick 99;man m in a salt 0 waits 2;");
        y.hours(98);
        check.due("not loose", y.man(0, 0), 0);
        y.hours(1);
        check.due("loose on day 4", y.man(0, 0), -1);
    }

    /** "with no guard in his CELL", in the HOUR itself: not in the one behind it. */
    private void aGuardInHisCell() {
        FrostLocks x = check.told(TWO + "man m in a salt 0 waits 0;guard a b;");
        x.hours(1);
        check.due("the guard is there", x.man(0, 0), 0);
        x.hours(1);
        check.due("he is gone", x.man(0, 0), -1);
        FrostLocks y = check.told(TWO + "man m in a salt 0 waits 0;guard b a;");
        y.hours(1);
        check.due("a guard who comes is late", y.man(0, 0), -1);
        FrostLocks z = check.told(TWO + "man m in a salt 0 waits 0;guard b;guard a a b;");
        z.hours(2);
        check.due("the second guard", z.man(0, 0), 0);
        z.hours(1);
        check.due("he is gone", z.man(0, 0), -1);
    }

    /** "nor in that PLACE". */
    private void aGuardInThatPlace() {
        FrostLocks x = check.told(TWO + "man m in b salt 0 waits 0;guard a a b;");
        x.hours(2);
        check.due("a guard is there", x.man(0, 0), 1);
        x.hours(1);
        check.due("now he is in his own", x.man(0, 0), 1);
        x.hours(2);
        check.due("there again", x.man(0, 0), 1);
        FrostLocks y = check.told(TWO + "cell c stove 0;man m in b salt 0 waits 0;guard a c;guard c;");
        y.hours(1);
        check.due("there", y.man(0, 0), 1);
        y.hours(1);
        check.due("elsewhere", y.man(0, 0), 0);
        y.hours(1);
        check.due("in his cell now", y.man(0, 0), 0);
        y.hours(1);
        check.due("and elsewhere", y.man(0, 0), -1);
    }

    /** A guard in neither holds no one; no guard is ever OUTSIDE. */
    private void guardsElsewhere() {
        FrostLocks x = check.told(TWO + "man m in a salt 0 waits 0;man n in b salt 0 waits 0;guard b;");
        x.hours(1);
        check.due("m", x.man(0, 0), -1);
        check.due("n", x.man(1, 0), 1);
        FrostLocks y = check.told(TWO + "cell c stove 0;man m in a salt 0 waits 0;man n in b salt 0 waits 0;"
            + "guard c;guard c c;");
        y.hours(1);
        check.due("m", y.man(0, 0), -1);
        check.due("n", y.man(1, 0), 0);
    }

    /** "that CELL of his ROUND whose number is the HOUR modulo how many these are", of rounds of 1 to 8. */
    private void roundsByTheHour() {
        String cells = "cell a stove 0;cell b stove 0;cell c stove 0;cell d stove 0;";
        String names = "abcdacbd";
        for (int many = 1; many <= 8; many++) {
            StringBuilder round = new StringBuilder("guard");
            for (int i = 0; i < many; i++) {
                round.append(' ').append(names.charAt(i));
            }
            FrostLocks x = check.told(cells + round + ";");
            for (int hour = 0; hour < 20; hour++) {
                for (int cell = 0; cell < 4; cell++) {
                    int want = names.charAt(hour % many) == 'a' + cell ? 1 : 0;
                    check.due("round of " + many + " in " + hour, x.cell(cell, 2), want);
                }
                x.hours(1);
            }
        }
    }

    /** "2: guards there": none, one, the other one, both. */
    private void guardsThere() {
        FrostLocks x = check.told("cell a stove 0;cell b stove 0;guard a a b b;guard a b;");
        int[][] want = {{2, 0}, {1, 1}, {1, 1}, {0, 2}};
        for (int hour = 0; hour < 8; hour++) {
            check.due("a in " + hour, x.cell(0, 2), want[hour % 4][0]);
            check.due("b in " + hour, x.cell(1, 2), want[hour % 4][1]);
            x.hours(1);
        }
    }

    /** First the locks, then the men. */
    private void looseInThatHour() {
        FrostLocks x = check.told("ice 0-2;cell a stove 0;door a to out thick 3;man m in a salt 0 waits 0;");
        x.hours(1);
        check.due("one ice is left", x.man(0, 0), 0);
        x.hours(1);
        check.due("none is", x.man(0, 0), -1);
    }

    private void shutInThatHour() {
        FrostLocks x = check.told("ice 1;cell a stove 0;door a to out thick 0;man m in a salt 0 waits 0;");
        x.pour(0, 1);
        check.due("loose now", x.soon(0, 1), 0);
        x.hours(50);
        check.due("shut behind the hour", x.man(0, 0), 0);
    }

    /** "that lead to a PLACE NEARER to OUTSIDE than it": neither as far nor farther. */
    private void onlyNearer() {
        FrostLocks x = check.told("ice 0;cell a stove 0;cell b stove 0;cell c stove 0;door a to out thick 1;"
            + "door b to out thick 1;door a to b thick 0;door c to a thick 0;man m in a salt 0 waits 0;"
            + "man n in b salt 0 waits 0;man o in c salt 0 waits 0;");
        x.hours(50);
        check.due("m neither to b nor to c", x.man(0, 0), 0);
        check.due("n not to a", x.man(1, 0), 1);
        check.due("o to a", x.man(2, 0), 0);
    }

    /** "of equal ones the first", by the door's number. */
    private void ofEqualOnesTheFirst() {
        String four = "ice 0;cell a stove 0;cell b stove 0;cell c stove 0;cell d stove 0;";
        String outs = "door a to out thick 9;door b to out thick 9;door c to out thick 9;";
        String[][] rows = {{"door d to c thick 0;door d to b thick 0;door d to a thick 0;", "2"},
            {"door b to d thick 0;door d to c thick 0;door d to a thick 0;", "1"},
            {"door d to a thick 0;door b to d thick 0;door d to c thick 0;", "0"}};
        for (String[] row : rows) {
            FrostLocks x = check.told(four + row[0] + outs + "man m in d salt 0 waits 0;");
            x.hours(1);
            check.due("by " + row[0], x.man(0, 0), Integer.parseInt(row[1]));
        }
    }

    /** Of the doors only those count that are LOOSE and whose PLACE has no guard. */
    private void theFirstThatMayBe() {
        String four = "ice 0;cell a stove 0;cell b stove 0;cell c stove 0;cell d stove 0;door a to out thick 9;"
            + "door b to out thick 9;door c to out thick 9;";
        FrostLocks x = check.told(four + "door d to a thick 1;door d to b thick 0;door d to c thick 0;"
            + "man m in d salt 0 waits 0;guard b;");
        x.hours(1);
        check.due("the third", x.man(0, 0), 2);
        FrostLocks y = check.told(four + "door d to a thick 1;door d to b thick 0;door d to c thick 1;"
            + "man m in d salt 0 waits 0;guard b;");
        y.hours(9);
        check.due("none", y.man(0, 0), 3);
    }

    private void fromEitherSide() {
        FrostLocks x = check.told("ice 0;cell a stove 0;cell b stove 0;cell c stove 0;door a to b thick 0;"
            + "door b to c thick 0;door a to out thick 0;man m in c salt 0 waits 0;");
        int[] want = {1, 0, -1};
        for (int cell : want) {
            x.hours(1);
            check.due("to " + cell, x.man(0, 0), cell);
        }
    }

    /** "from where there is no way none leads nearer". */
    private void noWay() {
        FrostLocks x = check.told("ice 0;cell a stove 0;cell b stove 0;cell c stove 0;door a to b thick 0;"
            + "door b to c thick 0;man m in a salt 0 waits 0;man n in b salt 0 waits 0;");
        x.hours(100);
        check.due("m stays", x.man(0, 0), 0);
        check.due("n stays", x.man(1, 0), 1);
        for (int cell = 0; cell < 3; cell++) {
            check.due("no way", x.cell(cell, 3), -1);
        }
    }

    /** "FAR is how many doors it is to OUTSIDE (0), LOOSE or not". */
    private void far() {
        StringBuilder row = new StringBuilder();
        for (char cell = 'a'; cell <= 'h'; cell++) {
            row.append("cell ").append(cell).append(" stove 0;");
        }
        StringBuilder up = new StringBuilder(row);
        StringBuilder down = new StringBuilder(row);
        for (char cell = 'a'; cell < 'h'; cell++) {
            up.append("door ").append(cell).append(" to ").append((char) (cell + 1)).append(" thick 99;");
            down.append("door ").append((char) (cell + 1)).append(" to ").append(cell).append(" thick 0;");
        }
        FrostLocks x = check.told(up + "door h to out thick 99;");
        FrostLocks y = check.told(down + "door a to out thick 99;");
        for (int cell = 0; cell < 8; cell++) {
            check.due("up from " + cell, x.cell(cell, 3), 8 - cell);
            check.due("down from " + cell, y.cell(cell, 3), 1 + cell);
        }
        FrostLocks z = check.told(down + "door a to out thick 0;door h to out thick 99;");
        int[] want = {1, 2, 3, 4, 4, 3, 2, 1};
        for (int cell = 0; cell < 8; cell++) {
            check.due("both ends from " + cell, z.cell(cell, 3), want[cell]);
        }
        check.due("alone", check.told("cell a stove 0;").cell(0, 3), -1);
    }

    private void oneDoorAnHour() {
        FrostLocks x = check.told("ice 0;cell a stove 0;cell b stove 0;cell c stove 0;door a to out thick 0;"
            + "door b to a thick 0;door c to b thick 0;man m in c salt 0 waits 0;");
        int[] want = {1, 0, -1, -1};
        for (int cell : want) {
            x.hours(1);
            check.due("to " + cell, x.man(0, 0), cell);
        }
    }

    /** Each man goes by himself: none is in another one's way. */
    private void menOneByOne() {
        FrostLocks x = check.told(TWO + "man m in b salt 0 waits 0;man n in a salt 0 waits 0;man o in b salt 0 waits 1;"
            + "man p in a salt 0 waits 0;man q in b salt 0 waits 0;");
        x.hours(1);
        check.due("in a", x.cell(0, 1), 1 | 16);
        check.due("in b", x.cell(1, 1), 4);
        check.due("held", x.count(5), 3);
        x.hours(1);
        check.due("in a", x.cell(0, 1), 0);
        check.due("in b", x.cell(1, 1), 4);
    }

    /** "OUTSIDE he is FREE": he is nowhere, breathes on no door, and does not come back. */
    private void outside() {
        FrostLocks x = check.told("ice breath;cell a stove 0;cell b stove 0;door a to out thick 0;door b to out thick 5;"
            + "door b to a thick 5;man m in a salt 3 waits 0;");
        x.pour(1, 90);
        x.pour(2, 90);
        x.hours(1);
        check.due("free", x.man(0, 0), -1);
        check.due("by his last breath", x.door(2, 0), 6);
        check.due("no men in a", x.cell(0, 1), 0);
        check.due("no men in b", x.cell(1, 1), 0);
        check.due("held", x.count(5), 0);
        x.hours(100);
        check.due("free for good", x.man(0, 0), -1);
        check.due("no breath on a door to outside", x.door(1, 0), 5);
        check.due("nor on another", x.door(2, 0), 6);
        check.due("his salt", x.man(0, 1), 3);
    }
}
