/** The edges of the tape and of its tokens, a sentence of the document to each method. */
public final class TapeTest {
    private static final int MOST = 1000;

    private final Check check = new Check();

    public static void main(String[] args) {
        TapeTest test = new TapeTest();
        test.signsThatAreTaken();
        test.highestByteFirst();
        test.atMostAThousand();
        test.beyondIsLeftOut();
        test.othersAreLeftOut();
        test.readingTakesIt();
        test.onlyReadingTakesIt();
        test.emptyTape();
        test.wordsOfEight();
        test.lettersAndDigits();
        test.numbersOfFour();
        test.letterBehindANumber();
        test.numberBehindAWord();
        test.signsThatAreTokens();
        test.blanksWhereOneLikes();
        test.theEndIsAToken();
        test.check.end();
    }

    /** "10 and 32 .. 126": each byte in each of the 24 places of a feed. */
    private void signsThatAreTaken() {
        for (int sign = 0; sign < 256; sign++) {
            FrostLocks x = new FrostLocks();
            int want = sign == 10 || sign >= 32 && sign <= 126 ? 1 : 0;
            for (int place = 0; place < 24; place++) {
                long[] three = new long[3];
                three[place / 8] = (long) sign << 56 - 8 * (place % 8);
                check.due("feed of " + sign + " in " + place, x.feed(three[0], three[1], three[2]), want);
                x.prison();
            }
        }
    }

    /** "the bytes of a, b, c, of each the highest first". */
    private void highestByteFirst() {
        FrostLocks x = new FrostLocks();
        // "mild 13;", "cell ab ", "stove 2;"
        int length = x.feed(0x6d696c642031333bL, 0x63656c6c20616220L, 0x73746f766520323bL);
        check.due("feed of 24", length, 24);
        check.due("prison", x.prison(), 0);
        check.due("mild", x.count(6), 13);
        check.due("stove", x.cell(0, 0), 2);
    }

    private FrostLocks blank(int signs) {
        FrostLocks x = new FrostLocks();
        check.due("feed of " + signs + " blanks", Check.feed(x, " ".repeat(signs)), signs);
        return x;
    }

    /** "The TAPE has at most 1,000 signs". */
    private void atMostAThousand() {
        FrostLocks x = blank(MOST - 2);
        check.due("999", Check.feed(x, "a"), MOST - 1);
        check.due("1,000", Check.feed(x, "a"), MOST);
        check.due("1,001", Check.feed(x, "a"), MOST);
        check.due("1,000 and 24", Check.feed(x, "a".repeat(24)), MOST);
        check.due("counted", x.count(7), MOST);
    }

    /** "what is beyond 1,000" is "left out": the last of a feed, whichever long they are in. */
    private void beyondIsLeftOut() {
        String line = "mild 3;";
        for (int beyond = 0; beyond <= 24 - line.length(); beyond++) {
            FrostLocks x = blank(MOST - line.length());
            check.due("feed with " + beyond + " beyond", Check.feed(x, line + "!".repeat(beyond)), MOST);
            check.due("prison with " + beyond + " beyond", x.prison(), 0);
            check.due("mild with " + beyond + " beyond", x.count(6), 3);
        }
        FrostLocks y = blank(MOST - line.length() + 1);
        check.due("feed with the ; beyond", Check.feed(y, line), MOST);
        check.due("the ; is beyond", y.prison(), 1 + 16 * MOST);
        FrostLocks z = blank(MOST - 1);
        check.due("a wrong sign as the last", Check.feed(z, "!"), MOST);
        check.due("the last place", z.prison(), 1 + 16 * (MOST - 1));
    }

    /** "others than 10 and 32 .. 126 .. are left out": they part nothing and take no place. */
    private void othersAreLeftOut() {
        FrostLocks x = new FrostLocks();
        check.due("feed", x.feed(0x006d00690b6c7f64L, 0xff209f3180303b00L, 0x0900000000000000L), 4 + 4);
        check.due("prison", x.prison(), 0);
        check.due("mild", x.count(6), 10);
        x.feed(0x006d00690b6c7f64L, 0xff209f3280313b00L, 0L);
        check.due("places of what was taken", x.prison(), 4 + 16 * 5);
        FrostLocks y = blank(MOST - 1);
        check.due("others are not beyond either", y.feed(0L, 0x7f00000000000000L, 0x61L), MOST);
    }

    /** "what reads it takes it: it is empty then", with a FAULT and without. */
    private void readingTakesIt() {
        FrostLocks x = new FrostLocks();
        Check.feed(x, "mild 1;");
        check.due("right", x.prison(), 0);
        check.due("empty then", x.count(7), 0);
        check.due("fed anew", Check.feed(x, "  mild 21;"), 10);
        check.due("places anew", x.prison(), 4 + 16 * 7);
        check.due("empty then", x.count(7), 0);
        check.due("fed anew", Check.feed(x, "mild 2"), 6);
        check.due("what was read is gone", x.prison(), 1 + 16 * 6);
        check.due("empty then", x.count(7), 0);
        check.due("fed full", Check.feed(x, "mild 2;" + " ".repeat(MOST)), MOST);
        check.due("right", x.prison(), 0);
        check.due("room again", Check.feed(x, "a"), 1);
    }

    /** No other call takes signs or adds any. */
    private void onlyReadingTakesIt() {
        FrostLocks x = check.told("cell a stove 0;door a to out thick 3;man m in a salt 1 waits 0;");
        Check.feed(x, "mild 1;");
        x.mark(0, false);
        x.salt(0, 0);
        x.pour(0, 9);
        x.stove(0, 9);
        x.hours(30);
        x.soon(0, 9);
        x.needs(0, 9);
        x.first(9, 0);
        x.enough(9, 9);
        x.plan(0, 0);
        x.escape(0, 9);
        x.lots(1, 2, 3, 0);
        x.pardon(0);
        check.due("signs", x.count(7), 7);
        x.mark(0, true);
        check.due("signs", x.count(7), 7);
        check.due("read", x.prison(), 0);
        check.due("mild", x.count(6), 1);
    }

    /** "any number of" lines, so none as well. */
    private void emptyTape() {
        String[] empty = {"", " ", "\n", " \n \n", " ".repeat(MOST)};
        for (String text : empty) {
            FrostLocks x = check.told("weather 7;ice 3;mild 4;cell a stove 5;door a to out thick 6;"
                + "man m in a salt 7 waits 8;guard a;");
            x.hours(5);
            x.mark(2, false);
            check.tell(x, text);
            check.same("as new behind " + text.length() + " blanks", Check.look(x), Check.look(new FrostLocks()));
            check.due("degrees", x.degrees(0), -10);
            check.due("marks stay", x.mark(2, true), true);
            check.due("and what is on them", x.count(4), 5);
        }
    }

    /** "WORDS (letters a .. z, 8 at most)"; a longer one "at its first sign" is none. */
    private void wordsOfEight() {
        for (int length = 1; length <= 8; length++) {
            String name = "x".repeat(length);
            FrostLocks x = check.told("cell " + name + " stove 6;door " + name + " to out thick 5;");
            check.due("a name of " + length, x.door(0, 3), 0);
        }
        for (int length : new int[] {9, 10, 16, 17, 900}) {
            check.fault("cell " + "x".repeat(length) + " stove 6;", 1, 5);
        }
        check.fault("cell xxxxxxxx stove 0;door xxxxxxxxx to out thick 1;", 1, 27);
        check.fault("cell xxxxxxxx stove 0;door xxxxxxxx to out thick 1;guard xxxxxxxx xxxxxxxxx;", 1, 66);
        check.fault("weatherxx 1;", 1, 0);
        check.fault("mildmildmild 1;", 1, 0);
        check.fault("weather hourhourhour;", 1, 8);
        check.fault("weather 1 andandand 1;", 1, 10);
        // All eight letters tell names apart, the first and the last of them too.
        FrostLocks x = check.told("cell abcdefgh stove 1;cell abcdefgi stove 2;cell bbcdefgh stove 3;"
            + "door abcdefgi to bbcdefgh thick 0;");
        check.due("told apart", x.door(0, 3), 1);
        check.due("told apart", x.door(0, 4), 2);
    }

    /** "letters a .. z", digits 0 .. 9: the signs around them are none. */
    private void lettersAndDigits() {
        check.told("cell abcdwxyz stove 0;");
        check.fault("cell a` stove 0;", 1, 6);
        check.fault("cell z{ stove 0;", 1, 6);
        check.fault("cell A stove 0;", 1, 5);
        check.fault("cell aZ stove 0;", 1, 6);
        check.fault("weather 1/2;", 1, 9);
        check.fault("weather 1:2;", 1, 9);
        check.fault("cell a1 stove 0;", 1, 6);
        FrostLocks x = check.told("weather 1234+5678-(9999-3079)-(90-85);mild 10;");
        check.due("all digits", x.degrees(0), -13);
    }

    /** "NUMBERS (1 to 4 digits ..)"; a longer one "at its first sign" is none. */
    private void numbersOfFour() {
        for (String number : new String[] {"7", "07", "007", "0007"}) {
            check.due("mild " + number, check.told("mild " + number + ";").count(6), 7);
        }
        for (String number : new String[] {"00007", "10000", "000000000", "9".repeat(900)}) {
            check.fault("mild " + number + ";", 1, 5);
            check.fault("weather 1+" + number + ";", 1, 10);
        }
        check.due("the greatest", check.told("weather 9999-9960;").degrees(0), 39);
        check.fault("mild 9999;", 4, 5);
    }

    /** "a letter may stand right behind". */
    private void letterBehindANumber() {
        check.due("and", check.told("weather 5and 7;").degrees(0), 1);
        check.due("or", check.told("weather 0or 0;").degrees(0), 0);
        check.due("four digits and", check.told("weather 9999and 7;").degrees(0), 1);
        FrostLocks x = check.told("cell a stove 0;man m in a salt 3waits 4;");
        check.due("salt", x.man(0, 1), 3);
        check.due("waits", x.man(0, 2), 4);
        check.fault("mild 1a;", 1, 6);
        check.fault("mild 12345a;", 1, 5);
        check.fault("mild 1abcdefghi;", 1, 6);
    }

    /** "blanks .. between where one likes": so none are due behind a WORD either. */
    private void numberBehindAWord() {
        FrostLocks x = check.told("mild7;cell a stove8;door a to out thick9;man m in a salt6waits5;"
            + "weather not0and3or0+4*10;");
        check.due("mild", x.count(6), 7);
        check.due("stove", x.cell(0, 0), 8);
        check.due("thick", x.door(0, 0), 9);
        check.due("salt", x.man(0, 1), 6);
        check.due("waits", x.man(0, 2), 5);
        check.due("degrees", x.degrees(0), 1);
        check.fault("mild7mild7;", 1, 5);
        check.fault("cell8 stove 0;", 1, 4);
    }

    /** "the signs ( ) < = + - * ;  All else .. is none". */
    private void signsThatAreTokens() {
        check.due("all signs", check.told("weather (1<2)+(3=3)*4-5;").degrees(0), 0);
        for (char sign = 33; sign <= 126; sign++) {
            boolean known = "()<=+-*;".indexOf(sign) >= 0 || Character.isLetterOrDigit(sign);
            if (!known) {
                check.fault("" + sign, 1, 0);
                check.fault("weather " + sign + ";", 1, 8);
                check.fault("weather 1" + sign + "1;", 1, 9);
                check.fault("weather 1;" + sign, 1, 10);
                check.fault("cell a" + sign + "stove 1;", 1, 6);
            }
        }
    }

    /** "blanks (10, 32) between where one likes", at either end as well. */
    private void blanksWhereOneLikes() {
        String tight = "weather(1)+2*(hour<3)and not 0;cell a stove 1;door a to out thick 2;man m in a salt 3waits 4;"
            + "guard a a;";
        String wide = tight.replaceAll("(\\d|[a-z]+|[^a-z\\d ])", " \n $1\n\n ");
        check.same("blanks change nothing", Check.look(check.told(wide)), Check.look(check.told(tight)));
        FrostLocks x = check.told("\n \n  mild\n3\n;\n\n ");
        check.due("mild", x.count(6), 3);
        check.fault("mi ld 3;", 1, 0);
        check.fault("mi\nld 3;", 1, 0);
        check.fault("mild 1 2;", 1, 7);
        check.fault("\n\n mild 21;", 4, 8);
    }

    /** "the end being one at the text's length": every line broken off behind each of its tokens. */
    private void theEndIsAToken() {
        String told = "cell a stove 0 ; cell b stove 0 ; ";
        String[] lines = {"weather 1 + 2 * ( 3 ) < not 4 and hour ;", "ice degrees = ( stove or salt ) - breath ;",
            "mild 3 ;", "cell c stove 1 ;", "door a to b thick 9 ;", "door b to out thick 9 ;",
            "man m in a salt 1 waits 2 ;", "guard a b a ;"};
        for (String line : lines) {
            check.told(told + line);
            String[] tokens = line.split(" ");
            StringBuilder text = new StringBuilder(told);
            for (int i = 0; i < tokens.length - 1; i++) {
                text.append(i > 0 ? " " : "").append(tokens[i]);
                check.fault(text.toString(), 1, text.length());
                check.fault(text + " ", 1, text.length() + 1);
                check.fault(text + "\n \n", 1, text.length() + 3);
            }
        }
    }
}
