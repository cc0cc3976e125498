/** The edges of plans, of what salt left behind, of amnesties, Februaries and marks. */
public final class OddsTest {
    private static final String HOUSE = "weather hour-9;ice 0-degrees-salt*3-breath-stove;mild 9;cell a stove 1;"
        + "cell b stove 2;door a to out thick 9;door b to a thick 20;man m in b salt 3 waits 1;"
        + "man n in a salt 2 waits 9;guard a b b;";

    private final Check check = new Check();

    public static void main(String[] args) {
        OddsTest test = new OddsTest();
        test.planCutUpwards();
        test.planCostsLeast();
        test.planFewestDoors();
        test.planTheFirst();
        test.planFreeOrNoWay();
        test.planLongest();
        test.escapeFreeAlready();
        test.saltedBySoMuch();
        test.saltedByTheSameWaters();
        test.saltedSinceToldAlone();
        test.saltedWhereItFreezes();
        test.saltedByItself();
        test.saltedBehindAMark();
        test.besideTheFirstTime();
        test.besideNobodyElse();
        test.amnestyOfAll();
        test.amnestyNobodyIsHeld();
        test.drawBelow();
        test.drawsGoOn();
        test.lotsFromNowOn();
        test.lotsMen();
        test.lotsHours();
        test.marksHoldAll();
        test.marksHoldTheLast();
        test.marksHoldThePrison();
        test.marksAreFour();
        test.nothingIsOnIt();
        test.marksAreNoQuestions();
        test.check.end();
    }

    private void plan(String name, FrostLocks x, int man, int... want) {
        for (int what = 0; what < want.length; what++) {
            check.due(name + ", what " + what, x.plan(man, what), want[what]);
        }
        check.due(name + ", behind the last", x.plan(man, want.length), -1);
    }

    /** "its ice by 5, cut upwards": water costs nothing. */
    private void planCutUpwards() {
        int[][] rows = {{0, 0}, {1, 1}, {4, 1}, {5, 1}, {6, 2}, {10, 2}, {11, 3}, {95, 19}, {96, 20}, {99, 20}};
        for (int[] row : rows) {
            FrostLocks x = check.told("cell a stove 0;door a to out thick " + row[0] + ";man m in a salt 0 waits 9;");
            x.pour(0, 99);
            plan("ice " + row[0], x, 0, row[1], 1, 0);
        }
        // Each door by itself is cut upwards.
        FrostLocks y = check.told("cell a stove 0;cell b stove 0;door a to b thick 1;door b to out thick 1;"
            + "man m in a salt 0 waits 9;");
        plan("one and one", y, 0, 2, 2, 0, 1);
    }

    /** "the way .. that costs least", though it has more doors; from either side, guarded or not. */
    private void planCostsLeast() {
        FrostLocks x = check.told("cell a stove 0;cell b stove 0;cell c stove 0;door a to out thick 16;"
            + "door b to a thick 5;door c to b thick 5;door c to out thick 1;man m in a salt 0 waits 9;guard b;guard c;");
        plan("by b and c", x, 0, 3, 3, 1, 2, 3);
        check.due("far all the same", x.cell(0, 3), 1);
        FrostLocks y = check.told("ice 0;cell a stove 0;cell b stove 0;door a to out thick 11;door a to b thick 5;"
            + "door b to out thick 5;man m in a salt 0 waits 9;");
        plan("two for three", y, 0, 2, 2, 1, 2);
    }

    /** "of equal ones the fewest doors", nought costs among them. */
    private void planFewestDoors() {
        FrostLocks x = check.told("cell a stove 0;cell b stove 0;cell c stove 0;door a to b thick 0;door b to c thick 0;"
            + "door c to out thick 0;door b to out thick 0;door a to out thick 0;man m in a salt 0 waits 9;"
            + "man n in b salt 0 waits 9;");
        plan("one door", x, 0, 0, 1, 4);
        plan("one door", x, 1, 0, 1, 3);
        FrostLocks y = check.told("cell a stove 0;cell b stove 0;door a to b thick 5;door b to out thick 4;"
            + "door a to out thick 10;man m in a salt 0 waits 9;");
        plan("two by one door", y, 0, 2, 1, 2);
    }

    /** "then the first (numbers of doors, one by one)": by the first door that differs. */
    private void planTheFirst() {
        FrostLocks x = check.told("cell a stove 0;cell b stove 0;cell c stove 0;door c to out thick 1;"
            + "door a to b thick 1;door a to c thick 1;door b to out thick 1;man m in a salt 0 waits 9;");
        plan("1 3 ahead of 2 0", x, 0, 2, 2, 1, 3);
        FrostLocks y = check.told("cell a stove 0;cell b stove 0;door a to b thick 1;door a to b thick 2;"
            + "door b to out thick 3;door b to out thick 1;man m in a salt 0 waits 9;");
        plan("0 2 ahead of all", y, 0, 2, 2, 0, 2);
        FrostLocks z = check.told("cell a stove 0;door a to out thick 9;door a to out thick 5;door a to out thick 5;"
            + "door a to out thick 1;man m in a salt 0 waits 9;");
        plan("1 ahead of 2 and 3", z, 0, 1, 1, 1);
    }

    /** "NONE: others, FREE, no way". */
    private void planFreeOrNoWay() {
        FrostLocks x = check.told("cell a stove 0;cell b stove 0;cell c stove 0;door a to out thick 9;"
            + "door b to c thick 0;man m in a salt 0 waits 9;man n in b salt 0 waits 9;");
        for (int what = -1; what < 12; what++) {
            check.due("no way, what " + what, x.plan(1, what), -1);
        }
        plan("a way", x, 0, 2, 1, 0);
        x.pardon(0);
        for (int what = -1; what < 12; what++) {
            check.due("free, what " + what, x.plan(0, what), -1);
        }
        FrostLocks y = check.told("ice 0;cell a stove 0;door a to out thick 0;man m in a salt 0 waits 0;");
        plan("free soon", y, 0, 0, 1, 0);
        y.hours(1);
        check.due("free", y.plan(0, 0), -1);
    }

    /** From the farthest of eight cells, with ten doors. */
    private void planLongest() {
        StringBuilder text = new StringBuilder();
        for (char cell = 'a'; cell <= 'h'; cell++) {
            text.append("cell ").append(cell).append(" stove 0;");
        }
        for (char cell = 'a'; cell < 'h'; cell++) {
            text.append("door ").append((char) (cell + 1)).append(" to ").append(cell).append(" thick 99;");
        }
        text.append("door h to out thick 99;door h to g thick 99;door g to h thick 99;man m in a salt 0 waits 9;");
        FrostLocks x = check.told(text.toString());
        plan("eight doors", x, 0, 160, 8, 0, 1, 2, 3, 4, 5, 6, 7);
    }

    /** "FREE already, not within these". */
    private void escapeFreeAlready() {
        FrostLocks x = check.told("ice 0;cell a stove 0;cell b stove 0;door a to out thick 0;man m in a salt 0 waits 0;"
            + "man n in a salt 0 waits 0;man o in a salt 0 waits 10;man p in b salt 0 waits 0;");
        check.due("the least", x.escape(0, 1), 1);
        x.pardon(1);
        check.due("pardoned", x.escape(1, 240), -1);
        check.due("his day is too late", x.escape(2, 240), -1);
        check.due("no way", x.escape(3, 240), -1);
        x.hours(1);
        check.due("gone", x.escape(0, 240), -1);
        check.due("his day", x.escape(2, 240), 240);
        check.due("not within 239", x.escape(2, 239), -1);
    }

    /** "doors whose ice is less by so much at least", up to 99. */
    private void saltedBySoMuch() {
        FrostLocks x = check.told("ice 0-salt*20;cell a stove 0;door a to out thick 99;door a to out thick 20;"
            + "door a to out thick 5;man m in a salt 9 waits 9;");
        for (int i = 0; i < 5; i++) {
            x.salt(0, 0);
        }
        x.salt(0, 1);
        x.salt(0, 2);
        check.due("laid, and not an hour is gone", x.salted(1), 0);
        x.hours(5);
        // 99 in five hours, 20 and 5 in one.
        int[][] rows = {{1, 7}, {5, 7}, {6, 3}, {20, 3}, {21, 1}, {98, 1}, {99, 1}};
        for (int[] row : rows) {
            check.due("by " + row[0], x.salted(row[0]), row[1]);
        }
        check.due("by 0", x.salted(0), -1);
        check.due("by 100", x.salted(100), -1);
        StringBuilder ten = new StringBuilder("ice 0-salt*20;cell a stove 0;" + "door a to out thick 9;".repeat(10));
        ten.append("man m in a salt 9 waits 9;man n in a salt 9 waits 9;");
        FrostLocks y = check.told(ten.toString());
        for (int door = 0; door < 10; door++) {
            y.salt(door / 9, door);
        }
        y.hours(1);
        check.due("all ten", y.salted(9), 1023);
        check.due("none", y.salted(10), 0);
    }

    /** "(by the same waters, breaths, stoves)": what is poured and set counts for both. */
    private void saltedByTheSameWaters() {
        String law = "ice 3-salt*9-stove-breath;cell a stove 0;door a to out thick 20;man m in a salt 9 waits 9;";
        FrostLocks x = check.told(law);
        FrostLocks bare = check.told(law);
        x.salt(0, 0);
        for (int i = 0; i < 40; i++) {
            if (i == 3 || i == 9) {
                x.pour(0, 15);
                bare.pour(0, 15);
            }
            if (i == 12 || i == 20) {
                x.stove(0, 20 - i);
                bare.stove(0, 20 - i);
            }
            x.hours(1);
            bare.hours(1);
            int less = bare.door(0, 0) - x.door(0, 0);
            check.due("less in " + i, less >= 0, true);
            check.due("by so much in " + i, less > 0 ? x.salted(less) : 1, 1);
            check.due("by one more in " + i, x.salted(less + 1), 0);
            check.due("without salt in " + i, bare.salted(1), 0);
        }
    }

    /** "if no salt had ever been laid since the PRISON was told": a law may thicken by salt, and then none is less. */
    private void saltedSinceToldAlone() {
        FrostLocks x = check.told("ice salt*5-1;cell a stove 0;door a to out thick 20;man m in a salt 9 waits 9;");
        x.pour(0, 50);
        x.salt(0, 0);
        x.hours(1);
        check.due("more ice", x.door(0, 0), 24);
        check.due("is not less", x.salted(1), 0);
        String law = "ice 0-salt*5;cell a stove 0;door a to out thick 20;man m in a salt 9 waits 9;";
        check.tell(x, law);
        x.salt(0, 0);
        x.hours(1);
        check.due("less", x.salted(5), 1);
        x.mark(0, false);
        check.tell(x, law);
        check.due("told anew", x.salted(1), 0);
        x.hours(9);
        check.due("told anew", x.salted(1), 0);
        x.mark(0, true);
        check.due("back", x.salted(5), 1);
        x.hours(9);
        check.due("back and on", x.salted(5), 1);
        check.due("back and on", x.salted(6), 0);
    }

    /** A lock that is loose with salt and without may freeze the less for it. */
    private void saltedWhereItFreezes() {
        FrostLocks x = check.told("ice 3-salt;cell a stove 0;door a to out thick 0;man m in a salt 9 waits 9;");
        x.pour(0, 10);
        x.salt(0, 0);
        x.salt(0, 0);
        x.hours(1);
        check.due("ice", x.door(0, 0), 1);
        check.due("by two", x.salted(2), 1);
        check.due("by no more", x.salted(3), 0);
        x.hours(1);
        check.due("by three", x.salted(3), 1);
        check.due("by no more", x.salted(4), 0);
        x.hours(2);
        check.due("all is ice without salt", x.salted(1), 1);
        x.hours(1);
        check.due("and with it", x.salted(1), 0);
    }

    /** What its ice would be goes on by itself, even while it is less than what there is. */
    private void saltedByItself() {
        FrostLocks x = check.told("ice salt*(5-stove*4)-1;cell a stove 0;door a to out thick 1;man m in a salt 9 waits 9;");
        x.pour(0, 20);
        x.salt(0, 0);
        x.salt(0, 0);
        x.hours(3);
        check.due("thick by salt, and loose without", x.door(0, 0), 1 + 9 + 4 - 1);
        x.stove(0, 3);
        x.salt(0, 0);
        x.hours(1);
        check.due("now salt thaws", x.door(0, 0), 5);
        check.due("and it is not less than none", x.salted(1), 0);
    }

    /** What its ice would be is kept with the mark, and goes on by itself. */
    private void saltedBehindAMark() {
        FrostLocks x = check.told("ice 0-salt*5-1;cell a stove 0;door a to out thick 40;man m in a salt 9 waits 9;");
        x.salt(0, 0);
        x.hours(1);
        x.mark(0, false);
        x.hours(20);
        x.salt(0, 0);
        x.hours(1);
        check.due("by ten", x.salted(10), 1);
        x.mark(0, true);
        check.due("by five", x.salted(5), 1);
        check.due("by no more", x.salted(6), 0);
        x.hours(34);
        check.due("loose, and five are left without salt", x.salted(5), 1);
        x.hours(4);
        check.due("one is left without salt", x.salted(1), 1);
        check.due("no more is", x.salted(2), 0);
        x.hours(1);
        check.due("none is left", x.salted(1), 0);
    }

    /** "the men who were in its CELLS when salt was laid on it for the first time". */
    private void besideTheFirstTime() {
        FrostLocks x = check.told("ice 0;cell a stove 0;cell b stove 0;cell c stove 0;door a to out thick 9;"
            + "door b to a thick 0;door c to b thick 9;man m in b salt 9 waits 0;man n in a salt 9 waits 9;"
            + "man o in c salt 9 waits 9;man p in a salt 0 waits 9;");
        for (int door = 0; door < 3; door++) {
            check.due("no salt was laid on " + door, x.beside(door), -1);
        }
        x.salt(1, 0);
        check.due("n and p", x.beside(0), 2 | 8);
        x.hours(1);
        check.due("m is in a now", x.man(0, 0), 0);
        x.salt(0, 0);
        check.due("for the first time", x.beside(0), 2 | 8);
        x.salt(0, 1);
        check.due("m, n and p", x.beside(1), 1 | 2 | 8);
        x.salt(2, 2);
        check.due("o alone", x.beside(2), 4);
        x.pardon(2);
        x.hours(100);
        check.due("the salt is gone", x.door(2, 2), 0);
        check.due("and he is free, all the same", x.beside(2), 4);
    }

    /** Neither guards nor men who are free were beside it; a refused salt is none. */
    private void besideNobodyElse() {
        FrostLocks x = check.told("ice 0;cell a stove 0;cell b stove 0;door a to b thick 9;door b to out thick 9;"
            + "man m in a salt 1 waits 9;man n in b salt 0 waits 9;man o in b salt 0 waits 9;guard a;guard b;");
        check.due("he has none", x.salt(1, 0), false);
        check.due("none of his cell", x.salt(0, 1), false);
        check.due("none was laid", x.beside(0), -1);
        check.due("none was laid", x.beside(1), -1);
        x.pardon(1);
        check.due("laid", x.salt(0, 0), true);
        check.due("m and o", x.beside(0), 1 | 4);
        check.due("the other door", x.beside(1), -1);
    }

    private FrostLocks six() {
        StringBuilder text = new StringBuilder("cell a stove 0;");
        for (char man = 'p'; man <= 'u'; man++) {
            text.append("man ").append(man).append(" in a salt 0 waits 9;");
        }
        return check.told(text.toString());
    }

    /** "n 0 to those held", "in lowest terms". */
    private void amnestyOfAll() {
        FrostLocks x = six();
        for (int held = 6; held >= 1; held--) {
            for (int n = 0; n <= held; n++) {
                int above = x.amnesty(n, 0);
                int below = x.amnesty(n, 1);
                check.due(n + " of " + held + " is as much", above * held, n * below);
                for (int divisor = 2; divisor <= 6; divisor++) {
                    check.due(n + " of " + held + " is lowest", above % divisor == 0 && below % divisor == 0, false);
                }
                check.due(n + " of " + held + " is above nought", below > 0, true);
            }
            check.due("none of " + held, x.amnesty(0, 0), 0);
            check.due("none of " + held, x.amnesty(0, 1), 1);
            check.due("all of " + held, x.amnesty(held, 0), 1);
            check.due("all of " + held, x.amnesty(held, 1), 1);
            check.due("one more", x.amnesty(held + 1, 0), -1);
            check.due("one more", x.amnesty(held + 1, 1), -1);
            check.due("one less than none", x.amnesty(-1, 0), -1);
            check.due("one less than none", x.amnesty(-1, 1), -1);
            x.pardon(held - 1);
        }
    }

    private void amnestyNobodyIsHeld() {
        FrostLocks x = six();
        for (int man = 0; man < 6; man++) {
            x.pardon(man);
        }
        check.due("nobody is held", x.amnesty(0, 0), -1);
        check.due("nobody is held", x.amnesty(0, 1), -1);
        check.due("nobody was told", check.told("cell a stove 0;").amnesty(0, 1), -1);
        check.due("nobody as new", new FrostLocks().amnesty(0, 0), -1);
    }

    /** The hours behind which the one door of this house was loose tell which of its draws were that number. */
    private FrostLocks drawing(int mild, int loose) {
        return check.told("weather mild=" + loose + ";ice 10-degrees*20;mild " + mild
            + ";cell a stove 0;door a to out thick 10;");
    }

    private static int drawn(int seed, int draws, int below, int number) {
        long g = seed;
        int times = 0;
        for (int i = 0; i < draws; i++) {
            g = (g * 1103515245L + 12345L) % 2147483648L;
            times += g / 65536 % below == number ? 1 : 0;
        }
        return times;
    }

    /** "a DRAW below mild and 1": 0 to mild, both among them. */
    private void drawBelow() {
        for (int mild : new int[] {0, 1, 6, 20}) {
            for (int number : new int[] {0, 1, mild, mild + 1}) {
                FrostLocks x = drawing(mild, number);
                for (int seed : new int[] {0, 1, 2, 4711, 9999}) {
                    int want = drawn(seed, 120, mild + 1, number);
                    check.due("draws of " + number + " by " + seed, x.lots(seed, 1, 120, 1), want);
                }
            }
        }
        FrostLocks y = drawing(0, 0);
        check.due("mild 0 draws 0 alone", y.lots(7, 20, 120, 1), 2400);
    }

    /** "(g goes on)": from one February to the next, and from one hour to the next. */
    private void drawsGoOn() {
        FrostLocks x = drawing(20, 3);
        for (int many = 1; many <= 20; many++) {
            check.due(many + " Februaries", x.lots(31, many, 17, 1), drawn(31, many * 17, 21, 3));
        }
        for (int hours : new int[] {1, 2, 119, 120}) {
            check.due(hours + " hours", x.lots(31, 20, hours, 1), drawn(31, 20 * hours, 21, 3));
        }
        check.due("the seed is g at first, each time it is asked", x.lots(31, 1, 17, 1), drawn(31, 17, 21, 3));
    }

    /** "each from now on as it is": hour, locks and men. */
    private void lotsFromNowOn() {
        FrostLocks x = check.told("weather hour;ice 0-(degrees=5)*20;mild 3;cell a stove 0;door a to out thick 20;"
            + "man m in a salt 0 waits 0;");
        check.due("hour 5 is not within 5", x.lots(0, 20, 5, 1), 0);
        check.due("nobody goes", x.lots(0, 20, 5, 0), 0);
        check.due("it is within 6", x.lots(0, 20, 6, 1), 20);
        check.due("all go", x.lots(0, 20, 6, 0), 20);
        x.hours(5);
        check.due("now it is within 1", x.lots(0, 20, 1, 1), 20);
        x.hours(1);
        check.due("loose from now on", x.lots(0, 3, 120, 1), 360);
    }

    /** "how many men are FREE at the end, all together": those who were free as well. */
    private void lotsMen() {
        FrostLocks x = check.told("ice 0;cell a stove 0;cell b stove 0;door a to out thick 0;man m in a salt 0 waits 0;"
            + "man n in b salt 0 waits 0;man o in a salt 0 waits 1;man p in b salt 0 waits 0;");
        check.due("m", x.lots(0, 7, 24, 0), 7);
        check.due("m and o", x.lots(0, 7, 25, 0), 14);
        x.pardon(1);
        check.due("n as well", x.lots(0, 7, 25, 0), 21);
        check.due("the most", x.lots(0, 20, 120, 0), 60);
    }

    /** "how many HOURS behind which some door was LOOSE": an hour once, however many doors. */
    private void lotsHours() {
        FrostLocks x = check.told("ice 0;cell a stove 0;door a to out thick 0;door a to out thick 0;door a to out thick 1;");
        check.due("all of them", x.lots(0, 20, 120, 1), 2400);
        check.due("one", x.lots(0, 1, 1, 1), 1);
        FrostLocks y = check.told("ice 1;cell a stove 0;door a to out thick 0;");
        y.pour(0, 1);
        check.due("loose now, and behind no hour", y.lots(0, 20, 120, 1), 0);
        FrostLocks z = check.told("ice 0-1;cell a stove 0;door a to out thick 99;");
        check.due("behind the last", z.lots(0, 20, 99, 1), 20);
        check.due("not within 98", z.lots(0, 20, 98, 1), 0);
        check.due("no door", check.told("cell a stove 0;").lots(0, 20, 120, 1), 0);
    }

    private FrostLocks lived() {
        FrostLocks x = check.told(HOUSE);
        x.salt(0, 1);
        x.pour(0, 20);
        x.hours(4);
        x.salt(1, 0);
        x.stove(0, 4);
        return x;
    }

    /** "MARKS .. hold the PRISON and all as it is", what was kept of salt among it. */
    private void marksHoldAll() {
        FrostLocks x = lived();
        String before = Check.look(x);
        int[] less = new int[100];
        for (int i = 1; i < 100; i++) {
            less[i] = x.salted(i);
        }
        x.mark(0, false);
        x.hours(50);
        x.pardon(0);
        x.pardon(1);
        x.stove(1, 9);
        x.pour(1, 50);
        check.due("another now", Check.look(x).equals(before), false);
        for (int times = 0; times < 2; times++) {
            check.due("back", x.mark(0, true), true);
            check.same("as it was", Check.look(x), before);
            x.hours(1);
            x.stove(0, 9);
            x.salt(0, 1);
        }
        x.mark(0, true);
        for (int i = 1; i < 100; i++) {
            check.due("less by " + i, x.salted(i), less[i]);
        }
        FrostLocks y = lived();
        x.hours(30);
        y.hours(30);
        check.same("and goes on as it did", Check.look(x), Check.look(y));
    }

    /** As much as can be told: the last cell, door and man are on the mark as well. */
    private void marksHoldTheLast() {
        StringBuilder text = new StringBuilder("ice 0;");
        for (char cell = 'a'; cell <= 'h'; cell++) {
            text.append("cell ").append(cell).append(" stove 1;");
        }
        text.append("door a to out thick 3;".repeat(9)).append("door h to out thick 0;");
        for (char man = 'p'; man <= 'u'; man++) {
            text.append("man ").append(man).append(" in a salt 5 waits 0;");
        }
        FrostLocks x = check.told(text.toString());
        for (int i = 0; i < 8; i++) {
            x.stove(i, 9 - i);
            x.pour(i + 2, 10 + i);
            x.salt(i % 6, i);
        }
        x.pardon(5);
        String before = Check.look(x);
        x.mark(0, false);
        for (int i = 0; i < 8; i++) {
            x.stove(i, 1);
            x.pour(i + 2, 50);
            x.salt(i % 6, i + 1);
        }
        x.pardon(4);
        x.hours(9);
        check.due("another now", Check.look(x).equals(before), false);
        check.due("back", x.mark(0, true), true);
        check.same("as it was", Check.look(x), before);
    }

    private void marksHoldThePrison() {
        FrostLocks x = lived();
        String before = Check.look(x);
        x.mark(3, false);
        check.tell(x, "weather 5;ice 1;cell q stove 9;");
        x.hours(7);
        x.mark(2, false);
        check.due("back", x.mark(3, true), true);
        check.same("as it was", Check.look(x), before);
        check.due("its weather", x.degrees(5), 0);
        check.due("and to the other", x.mark(2, true), true);
        check.due("cells", x.count(0), 1);
        check.due("hour", x.count(4), 7);
        check.due("its weather", x.degrees(5), 5);
        check.due("no door", x.door(0, 0), -1);
    }

    /** "MARKS 0 to 3": each by itself, laid again and again. */
    private void marksAreFour() {
        FrostLocks x = check.told("cell a stove 0;");
        for (int mark = 0; mark < 4; mark++) {
            x.stove(0, mark + 1);
            check.due("laid", x.mark(mark, false), true);
        }
        for (int mark = 3; mark >= 0; mark--) {
            check.due("back", x.mark(mark, true), true);
            check.due("stove", x.cell(0, 0), mark + 1);
        }
        x.stove(0, 9);
        check.due("laid over", x.mark(1, false), true);
        x.mark(0, true);
        check.due("the first", x.cell(0, 0), 1);
        x.mark(1, true);
        check.due("the second", x.cell(0, 0), 9);
        x.mark(2, true);
        check.due("the third", x.cell(0, 0), 3);
        for (int wrong : new int[] {-1, 4, Integer.MIN_VALUE, Integer.MAX_VALUE}) {
            check.due("none such", x.mark(wrong, false), false);
            check.due("none such", x.mark(wrong, true), false);
            check.due("nothing is changed", x.cell(0, 0), 3);
        }
    }

    /** "nothing is on it (back)". */
    private void nothingIsOnIt() {
        FrostLocks x = lived();
        String before = Check.look(x);
        for (int mark = 0; mark < 4; mark++) {
            check.due("nothing is on it", x.mark(mark, true), false);
            check.same("and all stays", Check.look(x), before);
        }
        x.mark(1, false);
        check.due("nothing is on 0", x.mark(0, true), false);
        check.due("something is on 1", x.mark(1, true), true);
        check.due("nothing is on 2", x.mark(2, true), false);
        // What a new object is may be marked as well.
        FrostLocks y = new FrostLocks();
        y.hours(3);
        check.due("laid", y.mark(0, false), true);
        check.tell(y, HOUSE);
        check.due("back", y.mark(0, true), true);
        check.due("no cell", y.count(0), 0);
        check.due("hour", y.count(4), 3);
    }

    /** A mark laid is a copy: neither hours nor questions change what is on it. */
    private void marksAreNoQuestions() {
        FrostLocks x = lived();
        String before = Check.look(x);
        x.mark(0, false);
        x.lots(1, 5, 50, 0);
        x.needs(0, 50);
        x.mark(0, true);
        check.same("as it was", Check.look(x), before);
        x.mark(1, false);
        x.mark(0, true);
        x.hours(9);
        x.mark(1, true);
        check.same("as it was", Check.look(x), before);
    }
}
