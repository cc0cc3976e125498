/** The FAULTS, each kind at its token, a sentence of the document to each method. */
public final class FaultTest {
    private static final String CELLS = "cell a stove 0;cell b stove 0;";
    private static final String MAN = "man m in a salt 0 waits 0;";
    private static final String[] RESERVED = {"weather", "ice", "mild", "cell", "stove", "door", "to", "out", "thick",
        "man", "in", "salt", "waits", "guard", "not", "and", "or"};

    private final Check check = new Check();

    public static void main(String[] args) {
        FaultTest test = new FaultTest();
        test.cantStandThere();
        test.reservedWordsAreNoNames();
        test.otherWordsAreNames();
        test.noCellTold();
        test.toldAlready();
        test.toItself();
        test.aSecondTime();
        test.numbersNotAsTold();
        test.ninthCell();
        test.eleventhDoor();
        test.seventhMan();
        test.thirdGuard();
        test.ninthOfARound();
        test.withinFiveOthers();
        test.withinFiveAndCantStand();
        test.whatIsNotWithin();
        test.theLeastOfTheFirst();
        test.placesFromNought();
        test.allStays();
        test.aPrisonAnew();
        test.check.end();
    }

    /** A fault of a line that stands behind the two cells, at the place of that many signs of the line. */
    private void line(String line, int kind, int place) {
        check.fault(CELLS + line, kind, CELLS.length() + place);
    }

    /** "1 it is none, or can't stand there": each token of each line, with what stands there nowhere. */
    private void cantStandThere() {
        String[] lines = {"weather 1 + 2 ;", "ice 1 < 2 ;", "mild 3 ;", "cell c stove 1 ;", "door a to b thick 9 ;",
            "door a to out thick 9 ;", "man m in a salt 1 waits 2 ;", "guard a b ;"};
        String[] nowhere = {",", ")", "=", "*", "waitss", "abcdefghi", "12345", "Z"};
        for (String line : lines) {
            String[] tokens = line.split(" ");
            int place = 0;
            for (int i = 0; i < tokens.length; i++) {
                for (String wrong : nowhere) {
                    if (stands(wrong, tokens, i)) {
                        continue;
                    }
                    line(line.substring(0, place) + wrong + " " + line.substring(place), 1, place);
                }
                place += tokens[i].length() + 1;
            }
        }
    }

    private static boolean stands(String wrong, String[] tokens, int i) {
        boolean behindPart = "+<;".contains(tokens[i]) && "weather ice".contains(tokens[0]);
        boolean name = wrong.equals("waitss") && isNamePlace(tokens, i);
        return name || behindPart && (wrong.equals("*") || wrong.equals("=") && (i == 2 || !tokens[2].equals("<")));
    }

    private static boolean isNamePlace(String[] tokens, int i) {
        return switch (tokens[0]) {
            case "cell" -> i == 1;
            case "door" -> i == 1 || i == 3;
            case "man" -> i == 1 || i == 3;
            case "guard" -> i >= 1;
            default -> false;
        };
    }

    /** "A NAME is another WORD than weather, ice, .. or". */
    private void reservedWordsAreNoNames() {
        for (String word : RESERVED) {
            line("cell " + word + " stove 0;", 1, 5);
            line("door " + word + " to a thick 0;", 1, 5);
            if (!word.equals("out")) {
                line("door a to " + word + " thick 0;", 1, 10);
            }
            line("man " + word + " in a salt 0 waits 0;", 1, 4);
            line("man m in " + word + " salt 0 waits 0;", 1, 9);
            line("guard " + word + ";", 1, 6);
            line("guard a " + word + ";", 1, 8);
            line("guard a a a a a a a a " + word + ";", 1, 22);
        }
    }

    private void otherWordsAreNames() {
        for (String word : new String[] {"hour", "day", "degrees", "breath", "water", "ou", "outs", "too", "nor", "e"}) {
            FrostLocks x = check.told("cell q stove 0;cell " + word + " stove 0;door " + word + " to q thick 0;door q to "
                + word + " thick 0;man p in " + word + " salt 0 waits 0;guard " + word + ";");
            check.due(word, x.door(1, 4), 1);
            check.told("cell q stove 0;man " + word + " in q salt 0 waits 0;");
        }
    }

    /** "2 a NAME of no CELL told (in door, man, guard)": not one told later, nor a man's. */
    private void noCellTold() {
        line("door c to a thick 0;", 2, 5);
        line("door a to c thick 0;", 2, 10);
        line("door c to c thick 0;", 2, 5);
        line("man m in c salt 0 waits 0;", 2, 9);
        line("man m in m salt 0 waits 0;", 2, 9);
        line("guard c;", 2, 6);
        line("guard a c;", 2, 8);
        line("guard a a a a a a a c;", 2, 20);
        line("door a to c thick 0;cell c stove 0;", 2, 10);
        line(MAN + "door m to a thick 0;", 2, MAN.length() + 5);
        line(MAN + "door a to m thick 0;", 2, MAN.length() + 10);
        line(MAN + "man n in m salt 0 waits 0;", 2, MAN.length() + 9);
        line(MAN + "guard m;", 2, MAN.length() + 6);
        line("door a to hour thick 0;", 2, 10);
        check.fault("guard a;cell a stove 0;", 2, 6);
        check.fault("man m in a salt 0 waits 0;", 2, 9);
    }

    /** "3 a NAME told already (behind cell, man)": cells and men together. */
    private void toldAlready() {
        line("cell a stove 0;", 3, 5);
        line("cell b stove 0;", 3, 5);
        line("man b in a salt 0 waits 0;", 3, 4);
        line(MAN + "cell m stove 0;", 3, MAN.length() + 5);
        line(MAN + "man m in a salt 0 waits 0;", 3, MAN.length() + 4);
        line(MAN + "man n in a salt 0 waits 0;cell n stove 0;", 3, 2 * MAN.length() + 5);
        StringBuilder all = new StringBuilder(CELLS);
        for (char cell = 'c'; cell <= 'g'; cell++) {
            all.append("cell ").append(cell).append(" stove 0;");
        }
        for (char man = 'p'; man <= 't'; man++) {
            all.append("man ").append(man).append(" in a salt 0 waits 0;");
        }
        for (char name : "abcdefgpqrst".toCharArray()) {
            check.fault(all + "cell " + name + " stove 0;", 3, all.length() + 5);
            check.fault(all + "man " + name + " in a salt 0 waits 0;", 3, all.length() + 4);
        }
        check.told(all + "cell h stove 0;man u in h salt 0 waits 0;");
    }

    /** "a door's second CELL that is the first one". */
    private void toItself() {
        line("door a to a thick 0;", 3, 10);
        line("door b to b thick 0;", 3, 10);
        FrostLocks x = check.told(CELLS + "door a to b thick 0;door b to a thick 0;door a to b thick 0;");
        check.due("the same two again and again", x.count(1), 3);
    }

    /** "the words weather, ice, mild a second time", whatever stands behind them. */
    private void aSecondTime() {
        String[] lines = {"weather 1;", "ice 1;", "mild 1;"};
        for (String once : lines) {
            String word = once.substring(0, once.indexOf(' '));
            check.fault(once + once, 3, once.length());
            check.fault(once + word, 3, once.length());
            check.fault(once + word + " ,", 3, once.length());
            check.fault(once + CELLS + once, 3, once.length() + CELLS.length());
            for (String other : lines) {
                check.fault(once + (other.equals(once) ? "" : other) + once, 3,
                    once.length() + (other.equals(once) ? 0 : other.length()));
            }
        }
        check.told("weather 1;ice 1;mild 1;");
        check.told("mild 0;ice 0;weather 0;");
        check.fault("mild 0;mild 0;", 3, 7);
        check.fault("weather mild+mild;mild 1;ice ice+ice;mild 1;", 3, 37);
    }

    /** "4 a NUMBER that is not as told": the most that is right and one above. */
    private void numbersNotAsTold() {
        check.due("mild 20", check.told("mild 20;").count(6), 20);
        check.due("mild 0", check.told("mild 0;").count(6), 0);
        check.fault("mild 21;", 4, 5);
        check.due("stove 9", check.told("cell a stove 9;").cell(0, 0), 9);
        check.due("stove 0", check.told("cell a stove 0;").cell(0, 0), 0);
        check.fault("cell a stove 10;", 4, 13);
        check.due("thick 99", check.told(CELLS + "door a to b thick 99;").door(0, 0), 99);
        check.due("thick 0", check.told(CELLS + "door a to b thick 0;").door(0, 0), 0);
        line("door a to b thick 100;", 4, 18);
        line("door a to out thick 100;", 4, 20);
        FrostLocks x = check.told(CELLS + "man m in a salt 9 waits 99;man n in a salt 0 waits 0;");
        check.due("salt 9", x.man(0, 1), 9);
        check.due("waits 99", x.man(0, 2), 99);
        check.due("salt 0", x.man(1, 1), 0);
        check.due("waits 0", x.man(1, 2), 0);
        line("man m in a salt 10 waits 0;", 4, 16);
        line("man m in a salt 0 waits 100;", 4, 24);
        for (String most : new String[] {"mild ", "cell c stove ", "door a to out thick ", "man m in a salt ",
            "man m in a salt 0 waits "}) {
            line(most + "9999;", 4, most.length());
            line(most + "10000;", 1, most.length());
            line(most + ";", 1, most.length());
        }
    }

    /** A word of one too many is a fault itself, with anything behind it and without. */
    private void tooMany(String told, String word) {
        for (String behind : new String[] {";", "", " ,", " out", " z stove 0;"}) {
            check.fault(told + word + behind, 5, told.length());
            check.fault(told + "\n " + word + behind, 5, told.length() + 2);
        }
    }

    /** "5 one too many: the words cell of a ninth". */
    private void ninthCell() {
        StringBuilder told = new StringBuilder();
        for (char cell = 'a'; cell <= 'h'; cell++) {
            told.append("cell ").append(cell).append(" stove ").append(cell - 'a').append(';');
        }
        FrostLocks x = check.told(told.toString());
        check.due("eight cells", x.count(0), 8);
        for (int cell = 0; cell < 8; cell++) {
            check.due("numbered as told", x.cell(cell, 0), cell);
        }
        tooMany(told.toString(), "cell");
        check.told(told + "door h to g thick 0;man m in h salt 0 waits 0;guard h;mild 0;");
    }

    /** "door of an eleventh". */
    private void eleventhDoor() {
        StringBuilder told = new StringBuilder(CELLS);
        for (int door = 0; door < 10; door++) {
            told.append("door a to b thick ").append(door * 11).append(';');
        }
        FrostLocks x = check.told(told.toString());
        check.due("ten doors", x.count(1), 10);
        for (int door = 0; door < 10; door++) {
            check.due("numbered as told", x.door(door, 0), door * 11);
        }
        tooMany(told.toString(), "door");
        check.told(told + "cell c stove 0;man m in c salt 0 waits 0;guard c;");
    }

    /** "man of a seventh". */
    private void seventhMan() {
        StringBuilder told = new StringBuilder(CELLS);
        for (int man = 0; man < 6; man++) {
            told.append("man ").append((char) ('p' + man)).append(" in b salt ").append(man).append(" waits 0;");
        }
        FrostLocks x = check.told(told.toString());
        check.due("six men", x.count(2), 6);
        for (int man = 0; man < 6; man++) {
            check.due("numbered as told", x.man(man, 1), man);
        }
        tooMany(told.toString(), "man");
        check.told(told + "cell c stove 0;door c to a thick 0;guard c;");
    }

    /** "guard of a third". */
    private void thirdGuard() {
        String told = CELLS + "guard a;guard b b;";
        check.due("two guards", check.told(told).count(3), 2);
        tooMany(told, "guard");
        check.told(told + "cell c stove 0;door c to a thick 0;" + MAN);
    }

    /** "the NAME of a ninth CELL of a ROUND", of the first guard and of the second. */
    private void ninthOfARound() {
        check.told(CELLS + "guard a b a b a b a b;guard b b b b b b b b;");
        line("guard a b a b a b a b a;", 5, 22);
        line("guard a b a b a b a b a a;", 5, 22);
        line("guard a b a b a b a b a", 5, 22);
        line("guard b;guard a b a b a b a b b;", 5, 30);
        line("guard a b a b a b a b c;", 2, 22);
        line("guard a b a b a b a b 1;", 1, 22);
        line("guard a b a b a b a b", 1, 21);
    }

    /** A text of that many not and ( around what is within; each bit of ways tells which. */
    private static String around(int deep, int ways, String within) {
        String text = within;
        for (int i = 0; i < deep; i++) {
            text = (ways >> i & 1) == 0 ? "(" + text + ")" : "not " + text;
        }
        return text;
    }

    /** "no PART lies within 5 of not and ( )", in each order of these. */
    private void withinFiveOthers() {
        for (int ways = 0; ways < 32; ways++) {
            for (String part : new String[] {"7", "hour", "not 7", "(7)"}) {
                String text = "weather " + around(5, ways, "@" + part) + ";";
                check.fault(text.replace("@", ""), 5, text.indexOf('@'));
            }
            String four = around(4, ways, "7");
            check.told("weather " + four + ";");
            check.told("ice " + around(4, ways, "degrees") + ";");
            String text = "ice " + around(5, ways, "@degrees") + ";";
            check.fault(text.replace("@", ""), 5, text.indexOf('@'));
        }
        check.fault("weather " + "(".repeat(900), 5, 13);
        check.fault("weather " + "not ".repeat(200), 5, 28);
    }

    /** Of a token within five that can't stand there either, the least is 1. */
    private void withinFiveAndCantStand() {
        for (String wrong : new String[] {")", ";", ",", "ice", "out", "and", "12345", "abcdefghi", "+", "<", ""}) {
            check.fault("weather (((((" + wrong, 1, 13);
            check.fault("weather not not not not not " + wrong, 1, 28);
        }
        check.fault("ice (((((hour)))));", 1, 9);
    }

    /** Those that are closed again, and those beside, are not around it. */
    private void whatIsNotWithin() {
        check.told("weather (1)+(2)*(3)-(4)<(5)+(6)and(7)or(8);");
        check.told("weather not 1+not 2*not 3-not 4<not 5+not 6 and not 7 or not 8;");
        check.told("weather ((((1))))+((((2))))*not not not not 3;");
        check.told("weather ((((1)))+(((2))));");
        check.fault("weather ((((1))))+(((((2)))));", 5, 23);
        check.fault("weather (1+(2*(3<(4 and (5)))));", 5, 25);
        check.fault("weather (1+(2*(3<(4 and (0=5)))));", 5, 25);
        check.told("weather (1+(2*(3<(4 and 5))));");
        check.told("weather not(not(1))+not(not(2));");
        check.fault("weather not(not(1))+not(not(not 2));", 5, 32);
    }

    /** "of the first token from the left that is wrong the least", whatever is wrong behind it. */
    private void theLeastOfTheFirst() {
        check.fault("mild 21;mild 1;", 4, 5);
        check.fault("mild 1;mild 21;", 3, 7);
        check.fault("mild 21 ,", 4, 5);
        check.fault("mild 21", 4, 5);
        line("door a to a thick 100;", 3, 10);
        line("door c to a thick 100;", 2, 5);
        line("cell a stove 10;", 3, 5);
        line("cell c stove 10;door x to y thick 100;", 4, 13);
        line("man a in c salt 10 waits 100;", 3, 4);
        line("man m in c salt 10 waits 100;", 2, 9);
        line("man m in a salt 10 waits 100;", 4, 16);
        line("guard c c c c c c c c c;", 2, 6);
        line("guard a a a a a a a a a c;", 5, 22);
        check.fault("weather (((((1+,", 5, 13);
        check.fault("weather 1;ice ,;weather 1;", 1, 14);
    }

    /** "kind + 16 * the place (from 0)", up to the last place and the end of a full tape. */
    private void placesFromNought() {
        check.fault(",", 1, 0);
        check.fault(" ,", 1, 1);
        for (int place : new int[] {0, 1, 15, 16, 17, 255, 256, 990, 994}) {
            check.fault(" ".repeat(place) + "mildx;", 1, place);
            check.fault("\n".repeat(place) + "guard", 1, place + 5);
        }
        check.fault(" ".repeat(999) + ",", 1, 999);
        check.fault("mild" + " ".repeat(996), 1, 1000);
        check.fault("mild 7;" + " ".repeat(988) + "mild;", 3, 995);
        check.fault("mild" + " ".repeat(994) + "21", 4, 998);
    }

    /** "all stays then": nothing of what was read in front of the fault is there. */
    private void allStays() {
        FrostLocks x = check.told("weather 7;ice 3-salt*4;mild 4;cell a stove 5;cell b stove 1;door a to out thick 6;"
            + "door b to a thick 20;man m in b salt 7 waits 1;man n in a salt 2 waits 99;guard a b b;");
        x.salt(0, 1);
        x.pour(0, 50);
        x.hours(30);
        x.salt(1, 0);
        x.stove(1, 8);
        x.mark(1, false);
        x.hours(1);
        x.pardon(1);
        String before = Check.look(x);
        int[] ahead = {x.escape(0, 240), x.soon(1, 240), x.lots(5, 3, 40, 1), x.degrees(500)};
        String other = "weather 0-9;ice 1;mild 9;cell q stove 2;cell r stove 3;cell s stove 4;door q to r thick 1;"
            + "door r to s thick 2;door s to out thick 3;man t in s salt 1 waits 2;guard q;guard r;";
        for (String wrong : new String[] {",", "mild 9;", "cell q", "door x", "man w in q salt 10", "guard q;"}) {
            Check.feed(x, other + wrong);
            check.due("a fault by " + wrong, x.prison() != 0, true);
            check.same("all stays behind " + wrong, Check.look(x), before);
        }
        check.due("who escapes", x.escape(0, 240), ahead[0]);
        check.due("what is loose", x.soon(1, 240), ahead[1]);
        check.due("what is drawn", x.lots(5, 3, 40, 1), ahead[2]);
        check.due("the weather", x.degrees(500), ahead[3]);
        check.due("MARKS stay", x.mark(1, true), true);
        check.due("with their hour", x.count(4), 30);
        check.due("others have nothing", x.mark(0, true), false);
    }

    /** "HOUR 0 (of DAY 0), no salt lies anywhere; MARKS stay", and nothing is left of the one before. */
    private void aPrisonAnew() {
        String full = "weather 7;ice 3-salt*4;mild 4;cell a stove 5;cell b stove 1;door a to out thick 6;"
            + "door b to a thick 20;man m in b salt 7 waits 1;man n in a salt 2 waits 99;guard a b b;guard b;";
        String small = "cell z stove 3;door z to out thick 9;man y in z salt 1 waits 0;";
        for (String text : new String[] {full, small}) {
            FrostLocks x = check.told(full);
            x.salt(0, 1);
            x.pour(0, 50);
            x.hours(100);
            x.salt(1, 0);
            x.stove(0, 9);
            x.pardon(1);
            x.mark(2, false);
            check.tell(x, text);
            check.same("as told to a new one", Check.look(x), Check.look(check.told(text)));
            check.due("HOUR 0", x.count(4), 0);
            check.due("no salt", x.door(0, 2), 0);
            check.due("none was laid", x.beside(0), -1);
            check.due("MARKS stay", x.mark(2, true), true);
            check.due("with their hour", x.count(4), 100);
            check.due("with their salt", x.door(0, 2), 1);
        }
    }
}
