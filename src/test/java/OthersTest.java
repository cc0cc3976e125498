import java.util.NoSuchElementException;

/**
 * Each argument of each method alone: the least and the most that are right, one below, one above, the least int and
 * the greatest int; on a new object and on one with as full a prison as can be told.
 */
public final class OthersTest {
    private static final int THROWN = -1000000;
    private static final int ANY = -2000000;
    private static final int REFUSED = 0;

    private interface Call {
        int at(FrostLocks x, int value);
    }

    private final Check check = new Check();

    public static void main(String[] args) {
        OthersTest test = new OthersTest();
        test.looking();
        test.hands();
        test.asking();
        test.asNew();
        test.rangesAsNew();
        test.madeTwice();
        test.check.end();
    }

    /** Of it, with salt on each door and a mark laid on each, every right call has another answer than NONE. */
    private static String full() {
        StringBuilder text = new StringBuilder("weather 5;ice (0<water)*20;mild 20;");
        for (char cell = 'a'; cell <= 'h'; cell++) {
            text.append("cell ").append(cell).append(" stove 3;");
        }
        text.append("door a to out thick 0;".repeat(9)).append("door b to a thick 0;");
        for (char man = 'p'; man <= 'u'; man++) {
            text.append("man ").append(man).append(" in a salt 9 waits 0;");
        }
        return text.append("guard c d;guard e f;").toString();
    }

    private FrostLocks house() {
        FrostLocks x = check.told(full());
        for (int door = 0; door < 10; door++) {
            x.salt(door % 6, door);
        }
        for (int mark = 0; mark < 4; mark++) {
            x.mark(mark, false);
        }
        return x;
    }

    private static int bit(boolean answer) {
        return answer ? 1 : 0;
    }

    private static int manOf(FrostLocks x, int man, int what) {
        try {
            return x.man(man, what);
        } catch (NoSuchElementException e) {
            return THROWN;
        }
    }

    private static int degreesOf(FrostLocks x, int hours) {
        try {
            return x.degrees(hours);
        } catch (NoSuchElementException e) {
            return THROWN;
        }
    }

    private void range(String name, int least, int most, int refusal, Call call) {
        for (int value : new int[] {least, least + 1, most - 1, most}) {
            int got = call.at(house(), value);
            check.due(name + " of " + value + " is taken, answered " + got, got != refusal, true);
        }
        for (int value : new int[] {least - 1, most + 1, Integer.MIN_VALUE, Integer.MAX_VALUE}) {
            refused(name, house(), value, refusal, call);
        }
    }

    private void refused(String name, FrostLocks x, int value, int refusal, Call call) {
        String before = Check.look(x);
        check.due(name + " of " + value, call.at(x, value), refusal);
        check.same(name + " of " + value + " leaves all", Check.look(x), before);
    }

    private void looking() {
        range("cell", 0, 7, -1, (x, v) -> x.cell(v, 0));
        range("cell's what", 0, 3, -1, (x, v) -> x.cell(0, v));
        range("door", 0, 9, -1, (x, v) -> x.door(v, 0));
        range("door's what", 0, 4, -1, (x, v) -> x.door(9, v));
        range("man", 0, 5, THROWN, (x, v) -> manOf(x, v, 0));
        range("man's what", 0, 2, THROWN, (x, v) -> manOf(x, 0, v));
        range("degrees", 0, 9999, THROWN, (x, v) -> degreesOf(x, v));
        range("count", 0, 7, -1, (x, v) -> x.count(v));
    }

    private void hands() {
        range("pour's door", 0, 9, -1, (x, v) -> x.pour(v, 5));
        range("pour's water", 0, 99, -1, (x, v) -> x.pour(0, v));
        range("salt's man", 0, 5, REFUSED, (x, v) -> bit(x.salt(v, 0)));
        range("salt's door", 0, 9, REFUSED, (x, v) -> bit(x.salt(0, v)));
        range("stove's cell", 0, 7, REFUSED, (x, v) -> bit(x.stove(v, 4)));
        range("stove's heat", 0, 9, REFUSED, (x, v) -> bit(x.stove(0, v)));
        range("pardon", 0, 5, REFUSED, (x, v) -> bit(x.pardon(v)));
        range("hours", 1, 1000, -1, (x, v) -> x.hours(v));
        range("mark", 0, 3, REFUSED, (x, v) -> bit(x.mark(v, false)));
        range("mark back", 0, 3, REFUSED, (x, v) -> bit(x.mark(v, true)));
    }

    private void asking() {
        range("soon's door", 0, 9, -1, (x, v) -> x.soon(v, 5));
        range("soon's hours", 1, 240, -1, (x, v) -> x.soon(0, v));
        range("needs' door", 0, 9, -1, (x, v) -> x.needs(v, 5));
        range("needs' hours", 1, 240, -1, (x, v) -> x.needs(0, v));
        range("first's hours", 1, 240, -1, (x, v) -> x.first(v, 0));
        range("first's i", 0, 9, -1, (x, v) -> x.first(5, v));
        range("enough's water", 0, 99, -1, (x, v) -> x.enough(v, 5));
        range("enough's hours", 1, 240, -1, (x, v) -> x.enough(5, v));
        range("plan's man", 0, 5, -1, (x, v) -> x.plan(v, 0));
        range("plan's what", 0, 2, -1, (x, v) -> x.plan(0, v));
        range("escape's man", 0, 5, -1, (x, v) -> x.escape(v, 5));
        range("escape's hours", 1, 240, -1, (x, v) -> x.escape(0, v));
        range("salted", 1, 99, -1, (x, v) -> x.salted(v));
        range("beside", 0, 9, -1, (x, v) -> x.beside(v));
        range("thaw", 1, 240, -1, (x, v) -> x.thaw(v));
        range("amnesty's n, above", 0, 6, -1, (x, v) -> x.amnesty(v, 0));
        range("amnesty's n, below", 0, 6, -1, (x, v) -> x.amnesty(v, 1));
        range("amnesty's what", 0, 1, -1, (x, v) -> x.amnesty(3, v));
        range("lots' seed", 0, 9999, -1, (x, v) -> x.lots(v, 2, 3, 0));
        range("lots' many", 1, 20, -1, (x, v) -> x.lots(7, v, 3, 1));
        range("lots' hours", 1, 120, -1, (x, v) -> x.lots(7, 2, v, 0));
        range("lots' what", 0, 1, -1, (x, v) -> x.lots(7, 2, 3, v));
    }

    private void asNew(String name, int refusal, Call call) {
        for (int value : new int[] {0, 1, -1, Integer.MIN_VALUE, Integer.MAX_VALUE}) {
            refused(name + " as new", new FrostLocks(), value, refusal, call);
        }
    }

    /** No cell: so there is no door and no man either, and all that is about one is refused. */
    private void asNew() {
        asNew("cell", -1, (x, v) -> x.cell(v, 0));
        asNew("cell's what", -1, (x, v) -> x.cell(0, v));
        asNew("door", -1, (x, v) -> x.door(v, 0));
        asNew("door's what", -1, (x, v) -> x.door(0, v));
        asNew("man", THROWN, (x, v) -> manOf(x, v, 0));
        asNew("man's what", THROWN, (x, v) -> manOf(x, 0, v));
        asNew("pour's door", -1, (x, v) -> x.pour(v, 1));
        asNew("pour's water", -1, (x, v) -> x.pour(0, v));
        asNew("salt's man", REFUSED, (x, v) -> bit(x.salt(v, 0)));
        asNew("salt's door", REFUSED, (x, v) -> bit(x.salt(0, v)));
        asNew("stove's cell", REFUSED, (x, v) -> bit(x.stove(v, 0)));
        asNew("stove's heat", REFUSED, (x, v) -> bit(x.stove(0, v)));
        asNew("pardon", REFUSED, (x, v) -> bit(x.pardon(v)));
        asNew("soon's door", -1, (x, v) -> x.soon(v, 1));
        asNew("soon's hours", -1, (x, v) -> x.soon(0, v));
        asNew("needs' door", -1, (x, v) -> x.needs(v, 1));
        asNew("needs' hours", -1, (x, v) -> x.needs(0, v));
        asNew("first's hours", -1, (x, v) -> x.first(v, 0));
        asNew("first's i", -1, (x, v) -> x.first(1, v));
        asNew("plan's man", -1, (x, v) -> x.plan(v, 0));
        asNew("plan's what", -1, (x, v) -> x.plan(0, v));
        asNew("escape's man", -1, (x, v) -> x.escape(v, 1));
        asNew("escape's hours", -1, (x, v) -> x.escape(0, v));
        asNew("beside", -1, (x, v) -> x.beside(v));
        asNew("thaw", -1, (x, v) -> x.thaw(v));
        asNew("amnesty's n", -1, (x, v) -> x.amnesty(v, 0));
        asNew("amnesty's what", -1, (x, v) -> x.amnesty(0, v));
        asNew("mark back", REFUSED, (x, v) -> bit(x.mark(v, true)));
    }

    private void rangeAsNew(String name, int least, int most, int refusal, int answer, Call call) {
        for (int value : new int[] {least, most}) {
            int got = call.at(new FrostLocks(), value);
            check.due(name + " of " + value + " as new", got, answer == ANY ? value : answer);
        }
        for (int value : new int[] {least - 1, most + 1, Integer.MIN_VALUE, Integer.MAX_VALUE}) {
            refused(name + " as new", new FrostLocks(), value, refusal, call);
        }
    }

    /** What needs no cell is answered by a new object as by any other. */
    private void rangesAsNew() {
        rangeAsNew("count", 0, 7, -1, 0, (x, v) -> x.count(v));
        rangeAsNew("degrees", 0, 9999, THROWN, -10, (x, v) -> degreesOf(x, v));
        rangeAsNew("hours", 1, 1000, -1, ANY, (x, v) -> x.hours(v));
        rangeAsNew("enough's water", 0, 99, -1, 1, (x, v) -> x.enough(v, 1));
        rangeAsNew("enough's hours", 1, 240, -1, 1, (x, v) -> x.enough(0, v));
        rangeAsNew("salted", 1, 99, -1, 0, (x, v) -> x.salted(v));
        rangeAsNew("lots' seed", 0, 9999, -1, 0, (x, v) -> x.lots(v, 1, 1, 0));
        rangeAsNew("lots' many", 1, 20, -1, 0, (x, v) -> x.lots(0, v, 1, 1));
        rangeAsNew("lots' hours", 1, 120, -1, 0, (x, v) -> x.lots(0, 1, v, 1));
        rangeAsNew("lots' what", 0, 1, -1, 0, (x, v) -> x.lots(0, 1, 1, v));
        rangeAsNew("mark", 0, 3, REFUSED, 1, (x, v) -> bit(x.mark(v, false)));
        check.due("an empty tape as new", new FrostLocks().prison(), 0);
        check.due("nothing fed as new", new FrostLocks().feed(0, 0, 0), 0);
    }

    /** An object knows nothing of another one. */
    private void madeTwice() {
        FrostLocks x = house();
        x.mark(0, false);
        Check.feed(x, "mild");
        check.same("a second object is new", Check.look(new FrostLocks()), Check.look(new FrostLocks()));
        check.due("no cell in a second one", new FrostLocks().count(0), 0);
        check.due("no sign in a second one", new FrostLocks().count(7), 0);
        check.due("no mark in a second one", new FrostLocks().mark(0, true), false);
    }
}
