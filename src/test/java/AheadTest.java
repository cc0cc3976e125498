/** The edges of what is asked from now on: behind no hour, behind the last one, never, none and all. */
public final class AheadTest {
    private final Check check = new Check();

    public static void main(String[] args) {
        AheadTest test = new AheadTest();
        test.soonNowAndAtLast();
        test.soonForTheFirstTime();
        test.soonByAllThatHappens();
        test.needsBehindThoseHoursAlone();
        test.needsNowItMayBe();
        test.needsAllThatThereIsRoomFor();
        test.needsAllOthersAsTheyAre();
        test.needsWhileHeIsHeld();
        test.needsTheLeast();
        test.firstThoseThatNeverAreLast();
        test.firstNowAheadOfSoon();
        test.firstEqualOnesByNumber();
        test.firstWithinTheHours();
        test.enoughEachOnce();
        test.enoughInThatOrder();
        test.enoughMoreDoorsThanHours();
        test.enoughMoreHoursThanDoors();
        test.enoughBehindThoseHours();
        test.enoughWithoutDoors();
        test.thawNowAndAtLast();
        test.mildIsNought();
        test.allIsAsAhead();
        test.check.end();
    }

    /** A door of so much ice that stands until that hour begins, and is loose behind it. */
    private FrostLocks looseIn(int hour) {
        return check.told("weather day*24+hour=" + hour + ";ice 0-degrees*20;cell a stove 0;door a to out thick 20;"
            + "man m in a salt 0 waits 0;");
    }

    /** "(0: now), within some (1 to 240)", "never within these". */
    private void soonNowAndAtLast() {
        for (int behind : new int[] {1, 2, 23, 24, 25, 239, 240}) {
            FrostLocks x = looseIn(behind - 1);
            check.due("soon behind " + behind, x.soon(0, behind), behind);
            check.due("escape behind " + behind, x.escape(0, behind), behind);
            check.due("soon within 240", x.soon(0, 240), behind);
            check.due("escape within 240", x.escape(0, 240), behind);
            check.due("needs until then", x.needs(0, behind - 1), behind > 1 ? 0 : -1);
            if (behind > 1) {
                check.due("not within " + (behind - 1), x.soon(0, behind - 1), -1);
                check.due("no escape within " + (behind - 1), x.escape(0, behind - 1), -1);
            }
        }
        FrostLocks y = looseIn(240);
        check.due("one too late", y.soon(0, 240), -1);
        check.due("one too late", y.escape(0, 240), -1);
        check.due("never loose", y.needs(0, 240), 0);
        y.hours(1);
        check.due("an hour on", y.soon(0, 240), 240);
        check.due("an hour on", y.escape(0, 240), 240);
        FrostLocks z = check.told("ice 0;cell a stove 0;door a to out thick 0;");
        check.due("now, within 1", z.soon(0, 1), 0);
        check.due("now, within 240", z.soon(0, 240), 0);
        check.due("not within 0", z.soon(0, 0), -1);
        check.due("not within 241", z.soon(0, 241), -1);
    }

    /** "LOOSE for the first time": even if it is shut again then. */
    private void soonForTheFirstTime() {
        FrostLocks x = check.told("weather (hour=3)*2-1;ice 0-degrees*20;cell a stove 0;door a to out thick 9;");
        check.due("in hour 3", x.soon(0, 240), 4);
        x.hours(4);
        check.due("now", x.soon(0, 240), 0);
        x.hours(1);
        check.due("shut again", x.door(0, 0), 9);
        check.due("tomorrow", x.soon(0, 240), 23);
        FrostLocks y = check.told("ice 9;cell a stove 0;door a to out thick 0;");
        y.pour(0, 5);
        check.due("now, though it freezes", y.soon(0, 240), 0);
    }

    /** What is foreseen is what comes to pass, in as full a prison as can be told. */
    private void soonByAllThatHappens() {
        StringBuilder text = new StringBuilder("weather hour-15+day;ice 0-degrees-stove-salt*3-breath;");
        for (char cell = 'a'; cell <= 'h'; cell++) {
            text.append("cell ").append(cell).append(" stove ").append((cell - 'a') % 3).append(';');
        }
        text.append("door a to out thick 30;door b to a thick 9;door c to b thick 4;door d to c thick 12;");
        text.append("door e to d thick 7;door e to f thick 2;door f to out thick 40;door g to h thick 5;");
        text.append("door h to out thick 9;door g to a thick 1;");
        for (char man = 'p'; man <= 'u'; man++) {
            text.append("man ").append(man).append(" in ").append((char) ('c' + man - 'p')).append(" salt ");
            text.append(man - 'p').append(" waits ").append((man - 'p') % 3).append(';');
        }
        text.append("guard a b c d e f g h;guard h a;");
        for (int i = 0; i < 10; i++) {
            looseComesToPass(lived(text.toString()), i);
        }
        for (int i = 0; i < 6; i++) {
            escapeComesToPass(lived(text.toString()), i);
        }
    }

    private FrostLocks lived(String text) {
        FrostLocks x = check.told(text);
        x.stove(7, 5);
        x.salt(1, 3);
        x.salt(5, 8);
        x.pour(9, 30);
        x.hours(2);
        return x;
    }

    private void looseComesToPass(FrostLocks x, int door) {
        int soon = x.soon(door, 200);
        for (int behind = 0; behind <= (soon == -1 ? 200 : soon); behind++) {
            check.due("door " + door + " loose behind " + behind, x.door(door, 0) == 0, behind == soon);
            x.hours(1);
        }
    }

    private void escapeComesToPass(FrostLocks x, int man) {
        int free = x.escape(man, 200);
        for (int behind = 0; behind <= (free == -1 ? 200 : free); behind++) {
            check.due("man " + man + " free behind " + behind, x.man(man, 0) == -1, behind == free);
            x.hours(1);
        }
    }

    /** "not LOOSE behind any of those HOURS": the first of them, the last, and none behind it. */
    private void needsBehindThoseHoursAlone() {
        // It freezes in hour 0 alone and loses one in each hour behind it.
        FrostLocks x = check.told("weather (hour=0)*9-1;ice degrees;cell a stove 0;door a to out thick 3;");
        for (int hours = 1; hours <= 20; hours++) {
            int want = hours <= 3 ? 0 : hours <= 11 ? hours - 3 : -1;
            check.due("needs within " + hours, x.needs(0, hours), want);
        }
        x.hours(1);
        // What is poured now freezes no more today.
        check.due("needs none within 2", x.needs(0, 2), 0);
        check.due("nothing does within 3", x.needs(0, 3), -1);
    }

    /** "(1 and more; now it may be)". */
    private void needsNowItMayBe() {
        FrostLocks x = check.told("ice 1;cell a stove 0;door a to out thick 0;door a to out thick 0;");
        x.pour(1, 1);
        check.due("loose now", x.soon(0, 1), 0);
        check.due("needs one", x.needs(0, 1), 1);
        check.due("needs one", x.needs(0, 240), 1);
        check.due("loose now, with water", x.soon(1, 1), 0);
        check.due("needs none", x.needs(1, 240), 0);
        FrostLocks y = check.told("ice 0;cell a stove 0;door a to out thick 0;door a to out thick 1;");
        check.due("loose for good", y.needs(0, 1), -1);
        check.due("shut for good", y.needs(1, 240), 0);
    }

    /** "all that there is room for does not do". */
    private void needsAllThatThereIsRoomFor() {
        for (int most : new int[] {1, 50, 98, 99}) {
            String law = "ice (ice+water=" + most + ")*20;cell a stove 0;door a to out thick 0;";
            check.due("needs " + most, check.told(law).needs(0, 5), most);
            FrostLocks x = check.told(law);
            x.pour(0, most - 1);
            check.due("needs one more", x.needs(0, 5), 1);
            x.pour(0, 1);
            check.due("needs no more", x.needs(0, 5), 0);
        }
        FrostLocks y = check.told("ice (ice+water=99)*20-(ice+water<99);cell a stove 0;door a to out thick 1;");
        check.due("all the room", y.needs(0, 5), 98);
        check.due("no more than the room", check.told("ice (99<ice+water)*20;cell a stove 0;door a to out thick 0;")
            .needs(0, 1), -1);
        FrostLocks z = check.told("ice 0-20;cell a stove 0;door a to out thick 99;");
        check.due("full, as long as it lasts", z.needs(0, 4), 0);
        check.due("full, and no longer", z.needs(0, 5), -1);
    }

    /** "all others as they are": only its own water is more, and men go where other doors are loose. */
    private void needsAllOthersAsTheyAre() {
        FrostLocks x = check.told("ice 4-breath*5;cell a stove 0;cell b stove 0;door a to out thick 3;"
            + "door a to b thick 0;door b to out thick 0;man m in a salt 0 waits 0;");
        // He breathes on the first door until it is loose: nothing leads out of a but it.
        check.due("far", x.cell(0, 3), 1);
        check.due("needs", x.needs(0, 3), -1);
        check.due("needs", x.needs(0, 2), 0);
        FrostLocks y = check.told("ice 4-breath*5;cell a stove 0;door a to out thick 3;door a to out thick 0;"
            + "man m in a salt 0 waits 0;");
        // He goes by the other one, so that it freezes again.
        check.due("needs", y.needs(0, 240), 0);
        check.due("needs", y.needs(1, 1), -1);
        check.due("others are as they are", y.door(1, 1), 0);
    }

    /** By the water that is enough nobody goes through that door, so that he breathes on it to the end. */
    private void needsWhileHeIsHeld() {
        FrostLocks x = check.told("weather hour=0;ice degrees*5-breath*(1-degrees);cell a stove 0;door a to out thick 0;"
            + "man m in a salt 0 waits 0;");
        // Five freeze in hour 0, then each breath takes one.
        for (int hours = 1; hours <= 5; hours++) {
            check.due("needs within " + hours, x.needs(0, hours), hours);
        }
        check.due("no more freeze", x.needs(0, 6), -1);
        check.due("without water he goes", x.escape(0, 1), 1);
    }

    /** "the least water", though more of it may do less. */
    private void needsTheLeast() {
        FrostLocks x = check.told("ice (water=5)*9+(water=9)*9-(ice+water=7);cell a stove 0;door a to out thick 0;");
        check.due("five", x.needs(0, 9), 5);
        x.pour(0, 2);
        check.due("three more", x.needs(0, 9), 3);
        x.pour(0, 4);
        check.due("six do not, nine do", x.needs(0, 9), 3);
        x.pour(0, 4);
        check.due("ten and more do not", x.needs(0, 9), -1);
    }

    /** "those that never are last". */
    private void firstThoseThatNeverAreLast() {
        FrostLocks x = check.told("ice 0-stove;cell a stove 0;cell b stove 1;door a to out thick 1;door b to out thick 9;"
            + "door a to out thick 5;door b to out thick 99;door a to out thick 0;");
        int[] want = {4, 1, 3, 0, 2};
        for (int i = 0; i < want.length; i++) {
            check.due("first " + i, x.first(240, i), want[i]);
        }
        check.due("no sixth", x.first(240, 5), -1);
        check.due("none ahead of the first", x.first(240, -1), -1);
    }

    /** "doors by SOON": now is ahead of behind one hour, whatever their numbers. */
    private void firstNowAheadOfSoon() {
        FrostLocks x = check.told("ice 0-1;cell a stove 0;door a to out thick 2;door a to out thick 1;"
            + "door a to out thick 0;");
        int[] want = {2, 1, 0};
        for (int i = 0; i < want.length; i++) {
            check.due("first " + i, x.first(240, i), want[i]);
            check.due("first " + i + " within 1", x.first(1, i), want[i]);
        }
    }

    /** "of equal ones by number", of ten. */
    private void firstEqualOnesByNumber() {
        StringBuilder text = new StringBuilder("ice 0-1;cell a stove 0;");
        for (int thick : new int[] {7, 3, 7, 0, 3, 9, 0, 7, 3, 9}) {
            text.append("door a to out thick ").append(thick).append(';');
        }
        FrostLocks x = check.told(text.toString());
        int[] want = {3, 6, 1, 4, 8, 0, 2, 7, 5, 9};
        int[] within = {3, 6, 1, 4, 8, 0, 2, 5, 7, 9};
        for (int i = 0; i < want.length; i++) {
            check.due("equal " + i, x.first(240, i), want[i]);
            check.due("never equal " + i, x.first(6, i), within[i]);
        }
        FrostLocks y = check.told("ice 1;cell a stove 0;" + "door a to out thick 1;".repeat(10));
        for (int i = 0; i < 10; i++) {
            check.due("all never " + i, y.first(240, i), i);
        }
    }

    /** Loose behind the last of the hours is within them; behind one more it is never. */
    private void firstWithinTheHours() {
        FrostLocks x = check.told("ice 0-1;cell a stove 0;door a to out thick 99;door a to out thick 9;");
        check.due("within 8 neither is", x.first(8, 0), 0);
        check.due("within 9 the second is", x.first(9, 0), 1);
        check.due("within 240 both are", x.first(240, 0), 1);
        check.due("and the other last", x.first(240, 1), 0);
        check.due("not within 0", x.first(0, 0), -1);
        check.due("not within 241", x.first(241, 0), -1);
    }

    /** "each once": the hour behind all doors pours nothing. */
    private void enoughEachOnce() {
        FrostLocks x = check.told("ice 0-(water<9);cell a stove 0;door a to out thick 3;");
        check.due("eight once", x.enough(8, 1), 1);
        // It loses one in the first hour, which is nine of water then.
        check.due("eight once and for all", x.enough(8, 240), 1);
        check.due("seven: two are lost", x.enough(7, 240), 1);
        check.due("six: three are lost", x.enough(6, 240), 0);
        FrostLocks y = check.told("ice 0-(ice+water<20);cell a stove 0;door a to out thick 5;");
        check.due("ten once is too little", y.enough(10, 240), 0);
        check.due("until the fifth hour it holds", y.enough(10, 4), 1);
        check.due("fifteen once", y.enough(15, 240), 1);
    }

    /** "in that order", which is FIRST's: the door that is loose soonest is poured first. */
    private void enoughInThatOrder() {
        // A lock loses one an hour, but freezes hard as soon as it has ten of water.
        FrostLocks x = check.told("ice (9<water)*20-1;cell a stove 0;door a to out thick 3;door a to out thick 1;"
            + "door a to out thick 2;");
        int[] order = {1, 2, 0};
        for (int i = 0; i < order.length; i++) {
            check.due("first " + i, x.first(240, i), order[i]);
        }
        for (int hours : new int[] {1, 2, 3, 4, 240}) {
            check.due("enough within " + hours, x.enough(20, hours), 1);
        }
        check.due("too little to freeze", x.enough(7, 1), 0);
        FrostLocks y = check.told("ice (9<water)*20-1;cell a stove 0;door a to out thick 1;door a to out thick 1;"
            + "door a to out thick 2;");
        check.due("two are loose at once", y.enough(20, 1), 0);
        FrostLocks z = check.told("ice (9<water)*20-1;cell a stove 0;door a to out thick 2;door a to out thick 2;"
            + "door a to out thick 2;");
        check.due("the third comes too late", z.enough(20, 2), 0);
        check.due("not yet", z.enough(20, 1), 1);
    }

    /** More doors than HOURS: the last of them are not poured at all. */
    private void enoughMoreDoorsThanHours() {
        FrostLocks x = check.told("ice 9;cell a stove 0;door a to out thick 0;door a to out thick 0;door a to out thick 0;");
        check.due("one of three", x.enough(9, 1), 0);
        check.due("two of three", x.enough(9, 2), 0);
        FrostLocks y = check.told("ice (0<water)*20-(ice<9);cell a stove 0;door a to out thick 9;door a to out thick 1;"
            + "door a to out thick 9;");
        check.due("the one that needs it", y.enough(5, 1), 1);
        check.due("without water", y.enough(0, 1), 0);
        String nine = "ice (9<water)*20-1;cell a stove 0;" + "door a to out thick 9;".repeat(9);
        FrostLocks z = check.told(nine + "door a to out thick 8;");
        check.due("eight of ten", z.enough(20, 8), 1);
        check.due("nine of ten", z.enough(20, 9), 0);
        FrostLocks w = check.told(nine + "door a to out thick 10;");
        check.due("nine of ten, and the last holds", w.enough(20, 9), 1);
        check.due("as many hours as doors", w.enough(20, 10), 1);
        check.due("and one more", w.enough(20, 11), 1);
    }

    private void enoughMoreHoursThanDoors() {
        FrostLocks x = check.told("ice (0<water)*20-1;cell a stove 0;door a to out thick 1;door a to out thick 2;");
        // Once all water is ice it loses one an hour, and has a water to freeze in each second hour.
        check.due("all hours", x.enough(30, 240), 1);
        check.due("no water", x.enough(0, 240), 0);
        FrostLocks y = check.told("weather 0-(day*24+hour<2)*9+1;ice 0-degrees;cell a stove 0;door a to out thick 1;"
            + "door a to out thick 2;");
        // Eight freeze in the first two hours, then one melts in each.
        check.due("poured 8: 9 and 10 of ice", y.enough(8, 2 + 8), 1);
        check.due("one hour more", y.enough(8, 2 + 9), 0);
        check.due("no more freezes than 16", y.enough(99, 2 + 8), 1);
        check.due("the second has one hour for it", y.enough(99, 2 + 9), 1);
        check.due("which is eight at most", y.enough(99, 2 + 10), 0);
    }

    /** "none is LOOSE behind any of those HOURS": now it may be, behind the last it may not. */
    private void enoughBehindThoseHours() {
        FrostLocks x = check.told("ice 1;cell a stove 0;door a to out thick 0;");
        check.due("loose now", x.soon(0, 1), 0);
        check.due("enough", x.enough(1, 1), 1);
        check.due("enough", x.enough(1, 240), 1);
        check.due("none is poured", x.enough(0, 1), 0);
        for (int behind : new int[] {1, 2, 24, 239, 240}) {
            FrostLocks y = looseIn(behind - 1);
            check.due("loose behind the last", y.enough(0, behind), 0);
            check.due("loose behind one more", behind > 1 ? y.enough(0, behind - 1) : 1, 1);
        }
        check.due("loose behind 241", looseIn(240).enough(0, 240), 1);
        FrostLocks z = check.told("ice 9;cell a stove 0;door a to out thick 60;");
        check.due("as far as there is room", z.enough(99, 240), 1);
    }

    private void enoughWithoutDoors() {
        FrostLocks x = check.told("cell a stove 0;");
        check.due("none is loose", x.enough(0, 240), 1);
        check.due("none is first", x.first(240, 0), -1);
        check.due("none is loose", new FrostLocks().enough(99, 1), 1);
    }

    /** "DEGREES are 0 or more for the first time (0: now), within some". */
    private void thawNowAndAtLast() {
        for (int behind : new int[] {1, 2, 23, 24, 25, 239, 240}) {
            FrostLocks x = check.told("weather (day*24+hour=" + behind + ")-1;");
            check.due("thaw behind " + behind, x.thaw(behind), behind);
            check.due("thaw within 240", x.thaw(240), behind);
            check.due("not within " + (behind - 1), x.thaw(behind - 1), -1);
            x.hours(behind);
            check.due("now", x.thaw(1), 0);
            x.hours(1);
            check.due("never again", x.thaw(240), -1);
        }
        check.due("one too late", check.told("weather (day*24+hour=241)-1;").thaw(240), -1);
        int[][] rows = {{0, -1}, {1, 0}, {2, 0}, {99, 0}};
        for (int[] row : rows) {
            check.due("degrees " + (row[0] - 1), check.told("weather " + row[0] + "-1;").thaw(240), row[1]);
        }
        check.due("mild is 0", check.told("weather mild-1;mild 20;").thaw(240), -1);
        check.due("without a line", check.told("cell a stove 0;").thaw(240), -1);
    }

    /** "mild is 0 but in LOTS": were it anything else, it would thaw hard. */
    private void mildIsNought() {
        FrostLocks x = check.told("weather not(mild=0)*30-1;ice 0-degrees*20;mild 20;cell a stove 0;cell b stove 0;"
            + "door a to out thick 60;door b to out thick 10;man m in a salt 0 waits 0;");
        check.due("degrees", x.degrees(0), -1);
        check.due("thaw", x.thaw(240), -1);
        check.due("soon", x.soon(0, 240), -1);
        check.due("needs", x.needs(0, 240), 0);
        check.due("first", x.first(240, 0), 0);
        check.due("enough", x.enough(0, 240), 1);
        check.due("escape", x.escape(0, 240), -1);
        x.hours(1000);
        check.due("hours", x.door(0, 0), 60);
        check.due("but in lots", x.lots(1, 20, 120, 0) > 0, true);
        check.due("and not behind them", x.soon(0, 240), -1);
        FrostLocks y = check.told("weather not(mild=0);ice 5-degrees*20;mild 20;cell a stove 0;door a to out thick 0;");
        check.due("it freezes", y.needs(0, 240), 1);
        FrostLocks z = check.told("weather not(mild=0);ice 0-degrees*20-breath;mild 20;cell a stove 0;"
            + "door a to out thick 3;door a to out thick 10;man m in a salt 0 waits 0;");
        check.due("he breathes on, as no other door thaws", z.needs(0, 3), -1);
        check.due("until then it holds", z.needs(0, 2), 0);
    }

    /** "(all is as ahead then)". */
    private void allIsAsAhead() {
        FrostLocks x = check.told("weather hour-9+mild;ice 0-degrees-salt*3-breath;mild 9;cell a stove 0;cell b stove 0;"
            + "door a to out thick 9;door b to a thick 2;man m in b salt 3 waits 0;man n in a salt 0 waits 1;guard a b b;");
        x.salt(0, 1);
        x.pour(0, 20);
        x.hours(3);
        String before = Check.look(x);
        for (int hours : new int[] {1, 7, 240}) {
            x.soon(0, hours);
            x.needs(0, hours);
            x.needs(1, hours);
            x.first(hours, 0);
            x.enough(9, hours);
            x.escape(0, hours);
            x.escape(1, hours);
            x.thaw(hours);
            x.lots(9, 20, Math.min(120, hours), 0);
            x.plan(0, 2);
            x.salted(1);
            x.beside(1);
            x.amnesty(1, 0);
            x.degrees(hours);
            check.same("behind " + hours, Check.look(x), before);
        }
        // Nor does one question leave anything to the next.
        int needs = x.needs(0, 30);
        x.lots(3, 20, 120, 1);
        check.due("asked again", x.needs(0, 30), needs);
        int lots = x.lots(3, 5, 50, 1);
        x.enough(99, 240);
        check.due("asked again", x.lots(3, 5, 50, 1), lots);
    }
}
