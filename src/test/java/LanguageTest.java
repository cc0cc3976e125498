/** Promises 1, 2, 3 and 25: the tape, the language, its faults, and what a prison is once it is told. */
public final class LanguageTest {
    private final Check check = new Check();

    public static void main(String[] args) {
        LanguageTest test = new LanguageTest();
        test.newObject();
        test.feeding();
        test.tokens();
        test.lines();
        test.names();
        test.numbers();
        test.tooMany();
        test.formulas();
        test.depths();
        test.values();
        test.facts();
        test.telling();
        test.counts();
        test.check.end();
    }

    private void newObject() {
        FrostLocks x = new FrostLocks();
        for (int what = 0; what < 8; what++) {
            check.due("new count " + what, x.count(what), 0);
        }
        check.due("new cell", x.cell(0, 0), -1);
        check.due("new door", x.door(0, 0), -1);
        check.noMan(x, 0, 0);
        check.due("new degrees", x.degrees(9999), -10);
        check.due("new pour", x.pour(0, 0), -1);
        check.due("new salt", x.salt(0, 0), false);
        check.due("new stove", x.stove(0, 0), false);
        check.due("new pardon", x.pardon(0), false);
        check.due("new soon", x.soon(0, 1), -1);
        check.due("new needs", x.needs(0, 1), -1);
        check.due("new first", x.first(1, 0), -1);
        check.due("new enough", x.enough(0, 1), 1);
        check.due("new plan", x.plan(0, 0), -1);
        check.due("new escape", x.escape(0, 1), -1);
        check.due("new salted", x.salted(1), 0);
        check.due("new beside", x.beside(0), -1);
        check.due("new thaw", x.thaw(240), -1);
        check.due("new amnesty", x.amnesty(0, 0), -1);
        check.due("new lots", x.lots(0, 20, 120, 0), 0);
        check.due("new lots", x.lots(0, 20, 120, 1), 0);
        check.due("new mark back", x.mark(0, true), false);
        check.due("new hours", x.hours(1000), 1000);
    }

    private void feeding() {
        FrostLocks x = new FrostLocks();
        check.due("feed of nothing", x.feed(0, 0, 0), 0);
        check.due("feed of others", x.feed(0x0b1f7fff80090d00L, -1L, Long.MIN_VALUE), 0);
        check.due("feed of the edges", x.feed(0x0a207e0000000000L, 0, 0x7eL), 4);
        check.due("prison of these", x.prison(), 1 + 16 * 2);
        check.due("signs then", x.count(7), 0);
        FrostLocks y = new FrostLocks();
        int length = Check.feed(y, "cell a stove 7;" + " ".repeat(975));
        check.due("signs", length, 990);
        check.due("feed up to the most", Check.feed(y, "x".repeat(24)), 1000);
        check.due("feed beyond", Check.feed(y, "x"), 1000);
        check.due("prison", y.prison(), 1 + 16 * 990);
        Check.feed(y, " ".repeat(985) + "cell a stove 7;;");
        check.due("what is beyond is left out", y.prison(), 0);
        check.due("stove", y.cell(0, 0), 7);
        Check.feed(y, " ".repeat(994) + "mild 1");
        check.due("a full tape that ends in a number", y.prison(), 1 + 16 * 1000);
        Check.feed(y, " ".repeat(996) + "mild");
        check.due("a full tape that ends in a word", y.prison(), 1 + 16 * 1000);
        Check.feed(y, "mild 1 " + " ".repeat(993));
        check.due("a full tape that ends in blanks", y.prison(), 1 + 16 * 1000);
        check.tell(y, "mild 12;cell abc stove 0;");
        Check.feed(y, "mild 1");
        check.due("what was read is gone", y.prison(), 1 + 16 * 6);
        Check.feed(y, "mi");
        Check.feed(y, "ld 3;");
        check.due("feeds join", y.prison(), 0);
        check.due("mild", y.count(6), 3);
        y.feed(0x636563L, 0x656c006cL, 0x20612073746fL);
        check.due("bytes in order", y.count(7), 3 + 3 + 6);
    }

    private void tokens() {
        check.fault("cell abcdefghi stove 0;", 1, 5);
        check.fault("cell a stove 00000;", 1, 13);
        check.fault("cell A stove 0;", 1, 5);
        check.fault("cell a, stove 0;", 1, 6);
        check.fault("cells a stove 0;", 1, 0);
        check.fault("cell a stove 0door", 1, 14);
        check.fault("cell a1 stove 0;", 1, 6);
        check.fault("cell a stove 0 0;", 1, 15);
        check.fault("weather 1>0;", 1, 9);
        FrostLocks x = check.told("cell abcdefgh stove 0009;\n\n cell\nb stove4 ;weather 3and 4;mild07;");
        check.due("stove", x.cell(0, 0), 9);
        check.due("stove", x.cell(1, 0), 4);
        check.due("degrees", x.degrees(0), 1);
        check.due("mild", x.count(6), 7);
        check.told("");
        check.told(" \n ");
    }

    private void lines() {
        check.fault(";", 1, 0);
        check.fault("  ;", 1, 2);
        check.fault("a", 1, 0);
        check.fault("stove 1;", 1, 0);
        check.fault("1;", 1, 0);
        check.fault("cell", 1, 4);
        check.fault("cell  ", 1, 6);
        check.fault("cell a", 1, 6);
        check.fault("cell a stove", 1, 12);
        check.fault("cell a stove 1", 1, 14);
        check.fault("cell a stove 1;;", 1, 15);
        check.fault("cell a thick 1;", 1, 7);
        check.fault("mild", 1, 4);
        check.fault("mild a;", 1, 5);
        check.fault("mild 1;mild", 3, 7);
        check.fault("weather 1;weather 1;", 3, 10);
        check.fault("ice 1;ice 1;", 3, 6);
        check.fault("mild 0;mild 0;", 3, 7);
        String a = "cell a stove 0;cell b stove 0;";
        check.fault(a + "door;", 1, 34);
        check.fault(a + "door a out thick 1;", 1, 37);
        check.fault(a + "door a to;", 1, 39);
        check.fault(a + "door a to thick 1;", 1, 40);
        check.fault(a + "door a to b 1;", 1, 42);
        check.fault(a + "door a to b thick;", 1, 47);
        check.fault(a + "man m a salt 0 waits 0;", 1, 36);
        check.fault(a + "man m in out salt 0 waits 0;", 1, 39);
        check.fault(a + "man m in a waits 0;", 1, 41);
        check.fault(a + "man m in a salt 0;", 1, 47);
        check.fault(a + "man m in a salt 0 waits;", 1, 53);
        check.fault(a + "guard;", 1, 35);
        check.fault(a + "guard a 1;", 1, 38);
        check.fault(a + "guard a out;", 1, 38);
        check.fault(a + "guard a b", 1, 39);
    }

    private void names() {
        String[] reserved = {"weather", "ice", "mild", "cell", "stove", "door", "to", "out", "thick", "man", "in",
            "salt", "waits", "guard", "not", "and", "or"};
        for (String word : reserved) {
            check.fault("cell " + word + " stove 0;", 1, 5);
            check.fault("cell a stove 0;man " + word + " in a salt 0 waits 0;", 1, 19);
        }
        for (String word : new String[] {"hour", "day", "degrees", "breath", "water", "e", "outs", "no"}) {
            check.told("cell " + word + " stove 0;door " + word + " to out thick 0;guard " + word + ";");
        }
        FrostLocks x = check.told("cell a stove 1;cell aa stove 2;cell aaaaaaaa stove 3;door aa to a thick 1;"
            + "door aaaaaaaa to aa thick 1;");
        check.due("a longer name is another", x.door(0, 3), 1);
        check.due("a longer name is another", x.door(1, 3), 2);
        check.fault("cell a stove 0;door b to out thick 1;", 2, 20);
        check.fault("cell a stove 0;door aa to out thick 1;", 2, 20);
        check.fault("cell b stove 0;door bb to out thick 1;", 2, 20);
        check.fault("cell z stove 0;door zz to out thick 1;", 2, 20);
        check.fault("door a to out thick 1;", 2, 5);
        check.fault("cell a stove 0;door out to a thick 1;", 1, 20);
        check.fault("cell a stove 0;door a to b thick 1;", 2, 25);
        check.fault("cell a stove 0;door a to a thick 1;", 3, 25);
        check.fault("cell a stove 0;man m in m salt 0 waits 0;", 2, 24);
        check.fault("cell a stove 0;man m in a salt 0 waits 0;door m to out thick 0;", 2, 46);
        check.fault("cell a stove 0;man m in a salt 0 waits 0;guard a m;", 2, 49);
        check.fault("cell a stove 0;cell a stove 0;", 3, 20);
        check.fault("cell a stove 0;man a in a salt 0 waits 0;", 3, 19);
        check.fault("cell a stove 0;man m in a salt 0 waits 0;cell m stove 0;", 3, 46);
        check.fault("cell a stove 0;man m in a salt 0 waits 0;man m in a salt 0 waits 0;", 3, 45);
        check.fault("cell a stove 0;guard a a a a a a a a a;", 5, 37);
        check.fault("cell a stove 0;guard a a a a a a a a b;", 2, 37);
        check.fault("cell a stove 0;guard a a a a a a a a to;", 1, 37);
        check.told("cell a stove 0;guard a a a a a a a a;");
    }

    private void numbers() {
        check.fault("mild 21;", 4, 5);
        check.fault("cell a stove 10;", 4, 13);
        String a = "cell a stove 9;";
        check.fault(a + "door a to out thick 100;", 4, 35);
        check.fault(a + "man m in a salt 10 waits 0;", 4, 31);
        check.fault(a + "man m in a salt 9 waits 100;", 4, 39);
        FrostLocks x = check.told(a + "mild 20;door a to out thick 99;man m in a salt 9 waits 99;");
        check.due("mild", x.count(6), 20);
        check.due("ice", x.door(0, 0), 99);
        check.due("salt", x.man(0, 1), 9);
        check.due("waits", x.man(0, 2), 99);
    }

    private void tooMany() {
        StringBuilder cells = new StringBuilder();
        for (int i = 0; i < 8; i++) {
            cells.append("cell ").append((char) ('a' + i)).append(" stove 0;");
        }
        String eight = cells.toString();
        check.due("cells", check.told(eight).count(0), 8);
        check.fault(eight + "cell a stove 0;", 5, eight.length());
        String doors = "cell a stove 0;" + "door a to out thick 0;".repeat(10);
        check.due("doors", check.told(doors).count(1), 10);
        check.fault(doors + "door", 5, doors.length());
        StringBuilder men = new StringBuilder("cell a stove 0;");
        for (int i = 0; i < 6; i++) {
            men.append("man ").append((char) ('b' + i)).append(" in a salt 0 waits 0;");
        }
        check.due("men", check.told(men.toString()).count(2), 6);
        check.fault(men + "man out", 5, men.length());
        check.due("a cell behind six men", check.told(men + "cell z stove 0;").count(0), 2);
        check.fault(men + "cell g stove 0;", 3, men.length() + 5);
        String guards = "cell a stove 0;guard a;guard a;";
        check.due("guards", check.told(guards).count(3), 2);
        check.fault(guards + "guard a;", 5, guards.length());
    }

    private void formulas() {
        check.fault("weather ;", 1, 8);
        check.fault("weather", 1, 7);
        check.fault("weather -1;", 1, 8);
        check.fault("weather 1 1;", 1, 10);
        check.fault("weather 1+;", 1, 10);
        check.fault("weather 1*+1;", 1, 10);
        check.fault("weather 1<2<3;", 1, 11);
        check.fault("weather 1=2<3;", 1, 11);
        check.fault("weather (1;", 1, 10);
        check.fault("weather 1);", 1, 9);
        check.fault("weather ();", 1, 9);
        check.fault("weather not;", 1, 11);
        check.fault("weather and 1;", 1, 8);
        check.fault("weather 1 not 1;", 1, 10);
        check.fault("weather 10000;", 1, 8);
        for (String fact : new String[] {"degrees", "stove", "salt", "breath", "ice", "water", "a", "out"}) {
            check.fault("weather " + fact + ";", 1, 8);
        }
        for (String fact : new String[] {"hour", "day", "mild", "a", "weather"}) {
            check.fault("ice " + fact + ";", 1, 4);
        }
        check.told("weather hour+day+mild;ice degrees+stove+salt+breath+ice+water;");
    }

    private void depths() {
        check.told("weather ((((1))));");
        check.told("weather not not not not 1;");
        check.told("weather not(not(1))+not(not(1));");
        check.fault("weather (((((1)))));", 5, 13);
        check.fault("weather (((((hour)))));", 5, 13);
        check.fault("weather (((((not 1)))));", 5, 13);
        check.fault("weather ((((((1))))));", 5, 13);
        check.fault("weather (((((ice)))));", 1, 13);
        check.fault("weather ((((()))));", 1, 13);
        check.fault("weather (((((", 1, 13);
        check.fault("weather (((((10000)))));", 1, 13);
        check.fault("weather not not not not not 1;", 5, 28);
        check.fault("weather not(not(not(1)));", 5, 19);
        check.fault("weather ((((1+(2)))));", 5, 15);
        check.fault("weather 1+(2<(3 and (4 or (not 5))));", 5, 31);
    }

    private void value(String formula, int want) {
        check.due(formula, check.told("weather " + formula + ";").degrees(0), want);
    }

    private void values() {
        value("2+3*4", 14);
        value("9-4-3", 2);
        value("9-(4-3)", 8);
        value("1 or 0 and 0", 0);
        value("1 or (0 and 0)", 1);
        value("0 and 0 or 7", 1);
        value("5 and 7", 1);
        value("not 5*3", 0);
        value("not 0*3", 3);
        value("not not 5", 1);
        value("not 2-3", -3);
        value("1+2<4", 1);
        value("4<4", 0);
        value("2*2=4", 1);
        value("(2*2=4)+(3<2)+30", 31);
        value("0-1<0", 1);
        value("0-1 and 1", 1);
        value("7 or 0", 1);
        value("1 and 0<9-2*(1 and 0<9-2*(1 and 0<9-2*(1 and 0<9-2*(1 and 0<9-2*4))))", 1);
        value("1 and 0<9-2*(1 and 0<9-2*(1 and 0<9-2*(1 and 0<1-2*(1 and 0<9-2*4))))", 1);
        value("1 and 0<1-2*(1 and 0<1-2*(1 and 0<1-2*(1 and 0<1-2*(1 and 0<9-2*5))))", 0);
        value("40", 40);
        value("41", 40);
        value("0-40", -40);
        value("0-41", -40);
        value("9999*9999*9999", -40);
        value("9999*9999*43", 40);
        value("9999*9999*9999<0", 1);
        // 65536 * 65536 wraps to nothing.
        value("256*256*(256*256)+5", 5);
    }

    private void facts() {
        FrostLocks x = check.told("weather hour*1+day*2+mild;mild 20;");
        check.due("hour 0", x.degrees(0), 0);
        check.due("hour 23", x.degrees(23), 23);
        check.due("hour 24", x.degrees(24), 2);
        check.due("hour 9999", x.degrees(9999), 40);
        check.due("passed", x.hours(47), 47);
        check.due("hour 47", x.degrees(0), 25);
        check.due("hour 48", x.degrees(1), 4);
        check.noDegrees(x, -1);
        check.noDegrees(x, 10000);
        check.noDegrees(x, Integer.MIN_VALUE);
        check.noDegrees(x, Integer.MAX_VALUE);
    }

    private void telling() {
        FrostLocks x = check.told("weather 7;ice 0;mild 3;cell a stove 1;door a to out thick 9;man m in a salt 2 waits 0;");
        x.hours(30);
        x.salt(0, 0);
        x.pour(0, 5);
        Check.feed(x, "cell a stove 1;cell b stove 2;door a to b thick 7;weather;");
        check.due("a fault", x.prison(), 1 + 16 * 57);
        check.due("all stays: cells", x.count(0), 1);
        check.due("all stays: hour", x.count(4), 30);
        check.due("all stays: mild", x.count(6), 3);
        check.due("all stays: degrees", x.degrees(0), 7);
        check.due("all stays: salt", x.door(0, 2), 1);
        check.due("all stays: water", x.door(0, 1), 5);
        check.due("all stays: beside", x.beside(0), 1);
        check.tell(x, "cell a stove 1;door a to out thick 9;man m in a salt 2 waits 0;");
        check.due("hour anew", x.count(4), 0);
        check.due("mild anew", x.count(6), 0);
        check.due("degrees anew", x.degrees(0), -10);
        check.due("salt anew", x.door(0, 2), 0);
        check.due("water anew", x.door(0, 1), 0);
        check.due("beside anew", x.beside(0), -1);
        check.due("his salt anew", x.man(0, 1), 2);
        check.tell(x, "");
        check.due("no cell", x.count(0), 0);
    }

    private void counts() {
        FrostLocks x = check.told("mild 4;cell a stove 0;cell b stove 0;cell c stove 0;door a to out thick 5;"
            + "door a to b thick 1;man m in a salt 0 waits 0;man n in b salt 0 waits 0;guard a;");
        int[] want = {3, 2, 2, 1, 0, 2, 4, 0};
        for (int what = 0; what < want.length; what++) {
            check.due("count " + what, x.count(what), want[what]);
        }
        x.pardon(0);
        check.due("held", x.count(5), 1);
        check.due("men", x.count(2), 2);
        x.hours(7);
        check.due("hour", x.count(4), 7);
        Check.feed(x, "abc");
        check.due("signs", x.count(7), 3);
        check.due("count -1", x.count(-1), -1);
        check.due("count 8", x.count(8), -1);
        check.due("count max", x.count(Integer.MAX_VALUE), -1);
        check.due("count min", x.count(Integer.MIN_VALUE), -1);
    }
}
