/** The edges of an E: its order, its wrapping, what is so, and which facts stand where. */
public final class FormulaTest {
    private static final String[] OF_WEATHER = {"hour", "day", "mild"};
    private static final String[] OF_ICE = {"degrees", "stove", "salt", "breath", "ice", "water"};

    private final Check check = new Check();

    public static void main(String[] args) {
        FormulaTest test = new FormulaTest();
        test.fromTheLeft();
        test.sumsAndProductsFromTheLeft();
        test.whatBindsTighter();
        test.oneTestInAnother();
        test.oneOrNought();
        test.whatIsNotNoughtIsSo();
        test.intsWrap();
        test.comparingWrapsNothing();
        test.factsOfWeatherAlone();
        test.factsOfIceAlone();
        test.otherWordsAreNoFacts();
        test.factsOfWeather();
        test.factsOfIce();
        test.asLongAsTheTape();
        test.asDeepAsCanBe();
        test.check.end();
    }

    private void value(String formula, int want) {
        check.due(formula, check.told("weather " + formula + ";").degrees(0), want);
    }

    /** "E: TEST { and TEST or or TEST }, from the left": neither and nor or comes first. */
    private void fromTheLeft() {
        value("1 or 1 and 0", 0);
        value("1 or 0 and 0", 0);
        value("0 and 0 or 1", 1);
        value("0 and 1 or 1", 1);
        value("0 or 1 and 1", 1);
        value("1 or (1 and 0)", 1);
        value("0 and (0 or 1)", 0);
        value("1 or 1 and 0 or 0 and 1", 0);
        value("1 and 0 or 1 and 1 or 0", 1);
    }

    private void sumsAndProductsFromTheLeft() {
        value("9-5-3", 1);
        value("9-5+3", 7);
        value("9+5-3+2", 13);
        value("9-(5-3)", 7);
        value("2*3*4", 24);
        value("0-2*3*4", -24);
    }

    private void whatBindsTighter() {
        value("2+3*4", 14);
        value("3*4+2", 14);
        value("20-3*4-2", 6);
        value("(2+3)*4", 20);
        value("1+2<4", 1);
        value("3<1+2", 0);
        value("3<2*2", 1);
        value("2*2=5-1", 1);
        value("1<2 and 2<3", 1);
        value("1<2 and 3<2", 0);
        value("5 and 7+2", 1);
        value("(5 and 7)+2", 3);
        // not takes the PART right behind it alone.
        value("not 0*3", 3);
        value("not 0+5", 6);
        value("not 1<2", 1);
        value("not(1<2)", 0);
        value("not 0=1", 1);
        value("not 5 or 1", 1);
    }

    /** "TEST: SUM, or SUM < SUM, or SUM = SUM": no third SUM. */
    private void oneTestInAnother() {
        for (String second : new String[] {"<", "="}) {
            check.fault("weather 1<2" + second + "3;", 1, 11);
            check.fault("weather 1=2" + second + "3;", 1, 11);
            check.fault("weather (1<2" + second + "3);", 1, 12);
        }
        value("(1<2)<3", 1);
        value("(1<2)=1", 1);
        value("(3=3)=3", 0);
    }

    /** "Of not, and, or, < and = comes 1 or 0". */
    private void oneOrNought() {
        value("not 0", 1);
        value("not 1", 0);
        value("not 9", 0);
        value("not not 9", 1);
        value("7 and 9", 1);
        value("7 and 0", 0);
        value("0 and 9", 0);
        value("0 and 0", 0);
        value("7 or 9", 1);
        value("7 or 0", 1);
        value("0 or 9", 1);
        value("0 or 0", 0);
        value("3<4", 1);
        value("4<4", 0);
        value("5<4", 0);
        value("4=4", 1);
        value("4=5", 0);
        value("5=4", 0);
        value("2 and 1", 1);
        value("4 or 3", 1);
    }

    private void whatIsNotNoughtIsSo() {
        value("(0-1)and 1", 1);
        value("1 and(0-1)", 1);
        value("(0-1)or 0", 1);
        value("0 or(0-1)", 1);
        value("not(0-1)", 0);
        value("0-1 or 0", 1);
        value("2 and 4", 1);
        value("9999*9999 and 9999", 1);
        value("not(9999*9999)", 0);
        // 65536 times 65536 wraps to 0 and is not so; twice 32768 times 32768 wraps to the least int and is.
        value("not(256*256*256*256)", 1);
        value("256*256*256*256 or 0", 0);
        value("256*256*256*128 and 1", 1);
    }

    /** "ints wrap": products, sums and differences, up and down. */
    private void intsWrap() {
        value("256*256*256*256+7", 7);
        value("256*256*256*128<0", 1);
        value("256*256*256*128-1<0", 0);
        value("256*256*256*128-1=0-256*256*256*128-1", 1);
        value("256*256*256*127+256*256*256<0", 1);
        value("0-256*256*256*128=256*256*256*128", 1);
        value("(256*256*256*128-1)*2+5", 3);
        value("9999*9999*9999*9999", Math.max(-40, Math.min(40, 9999 * 9999 * 9999 * 9999)));
        value("9999*9999*22", -40);
        value("9999*9999*21", 40);
        value("9999*9999*43-9999*9999*43+3", 3);
    }

    private void comparingWrapsNothing() {
        value("0-9999*9999*21<9999*9999*21", 1);
        value("9999*9999*21<0-9999*9999*21", 0);
        value("256*256*256*128<256*256*256*128-1", 1);
        value("256*256*256*256=0", 1);
    }

    private void factsOfWeatherAlone() {
        for (String fact : OF_WEATHER) {
            check.told("weather " + fact + ";");
            check.fault("ice " + fact + ";", 1, 4);
            check.fault("ice 1+" + fact + ";", 1, 6);
            check.fault("ice (not " + fact + ");", 1, 9);
            check.fault("weather " + fact + ";ice " + fact + ";", 1, 13 + fact.length());
        }
    }

    private void factsOfIceAlone() {
        for (String fact : OF_ICE) {
            check.told("ice " + fact + ";");
            check.fault("weather " + fact + ";", 1, 8);
            check.fault("weather 1+" + fact + ";", 1, 10);
            check.fault("weather (not " + fact + ");", 1, 13);
            check.fault("ice " + fact + ";weather " + fact + ";", 1, 13 + fact.length());
        }
        // A cell's name is no fact, even if it is told.
        check.fault("cell a stove 0;ice a;", 1, 19);
        check.fault("cell a stove 0;weather a;", 1, 23);
    }

    /** No other word is a fact, reserved or not. */
    private void otherWordsAreNoFacts() {
        for (String word : new String[] {"weather", "cell", "door", "to", "out", "thick", "man", "in", "waits", "guard",
            "and", "or", "a", "hours", "days", "e", "abcdefgh"}) {
            check.fault("weather " + word + ";", 1, 8);
            check.fault("weather 1+" + word + ";", 1, 10);
            check.fault("ice " + word + ";", 1, 4);
            check.fault("ice not " + word + ";", 1, 8);
        }
    }

    /** "hour (0 to 23), day, mild". */
    private void factsOfWeather() {
        FrostLocks x = check.told("weather hour;");
        FrostLocks y = check.told("weather day;");
        FrostLocks z = check.told("weather mild;mild 20;");
        for (int hours = 0; hours < 100; hours++) {
            check.due("hour behind " + hours, x.degrees(hours), hours % 24);
            check.due("day behind " + hours, y.degrees(hours), hours / 24);
            check.due("mild behind " + hours, z.degrees(hours), 0);
        }
        // 9999 is hour 15 of day 416.
        check.due("the last hour", x.degrees(9999), 15);
        check.due("the last day", check.told("weather day-400;").degrees(9999), 16);
    }

    /** The water that one hour freezes by that law is what the fact was at its beginning. */
    private void fact(String fact, int want) {
        FrostLocks x = check.told("weather 13;ice " + fact + ";cell a stove 9;cell b stove 2;cell c stove 5;"
            + "door a to b thick 6;man m in a salt 9 waits 9;man n in b salt 9 waits 9;man o in c salt 0 waits 9;"
            + "man p in a salt 0 waits 9;guard c;guard b;");
        x.pour(0, 90);
        x.salt(0, 0);
        x.salt(1, 0);
        x.salt(0, 0);
        x.hours(1);
        check.due(fact, x.door(0, 0), 6 + want);
    }

    private void factsOfIce() {
        fact("degrees", 13);
        fact("stove", 11);
        fact("salt", 3);
        fact("breath", 4);
        fact("ice", 6);
        fact("water-80", 10);
        fact("ice+water-90", 6);
    }

    /** A formula may take the whole tape. */
    private void asLongAsTheTape() {
        String sum = "weather 1" + "+1".repeat(495) + ";";
        check.due("signs", sum.length(), 1000);
        FrostLocks x = check.told(sum);
        check.due("a long sum", x.degrees(0), 40);
        String none = "weather 2" + "-1+1".repeat(247) + "-1" + ";";
        check.due("a long difference", check.told(none).degrees(0), 1);
        check.due("a long product", check.told("weather 3" + "*1".repeat(495) + ";").degrees(0), 3);
        check.due("a long or", check.told("weather 0" + " or 0".repeat(190) + " or 5;").degrees(0), 1);
        check.due("a long ice", check.told("ice 1" + "+1".repeat(480) + ";").prison(), 0);
    }

    /** All that may wait at once: an E, a TEST, a SUM and a PRODUCT in each depth. */
    private void asDeepAsCanBe() {
        String deep = "1 and 2<3+4*@";
        String four = "1 and 2<3+4*7";
        for (int i = 0; i < 4; i++) {
            four = deep.replace("@", "(" + four + ")");
        }
        value(four, 1);
        value(four.replace("2<3+4*7", "2<3-4*7"), 1);
        value("0 or 9<9+9*(0 or 9<9+9*(0 or 9<9+9*(0 or 9<9+9*(0 or 9<9+9*1))))", 1);
        value("0 or 9<9+9*(0 or 9<9+9*(0 or 9<9+9*(0 or 9<9+9*(0 or 9<9+9*0))))", 0);
    }
}
