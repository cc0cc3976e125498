import java.util.NoSuchElementException;
import java.util.Random;

/** Drawn runs of calls, each answered by the class and by the plain model alike. */
public final class ModelTest {
    private static final int THROWN = -1000000;
    private static final String[] WORDS = {"weather", "ice", "mild", "cell", "stove", "door", "to", "out", "thick",
        "man", "in", "salt", "waits", "guard", "not", "and", "or", "hour", "day", "degrees", "breath", "water", "a",
        "b", "c", "abcdefgh", "abcdefghi", "(", ")", "<", "=", "+", "-", "*", ";", "0", "1", "9", "10", "20", "21",
        "99", "100", "9999", "12345", ",", "A", "\n", "  "};
    private static final String[] WEATHER_FACTS = {"hour", "day", "mild"};
    private static final String[] ICE_FACTS = {"degrees", "stove", "salt", "breath", "ice", "water"};

    private final Random random;
    private final Check check = new Check();
    private FrostLocks x;
    private PlainModel y;
    private String text = "";

    private ModelTest(long seed) {
        random = new Random(seed);
    }

    public static void main(String[] args) {
        int runs = args.length > 0 ? Integer.parseInt(args[0]) : 400;
        ModelTest test = new ModelTest(args.length > 1 ? Long.parseLong(args[1]) : 1);
        for (int run = 0; run < runs; run++) {
            test.run();
        }
        test.check.end();
    }

    private void run() {
        x = new FrostLocks();
        y = new PlainModel();
        boolean tame = random.nextInt(8) != 0;
        for (int i = 0; i < 90; i++) {
            if (i == 0 || random.nextInt(40) == 0) {
                tell();
            }
            call(random.nextInt(24), tame);
        }
    }

    private int upTo(int most) {
        return random.nextInt(most + 1);
    }

    private String oneOf(String... texts) {
        return texts[random.nextInt(texts.length)];
    }

    private void tell() {
        StringBuilder prison = new StringBuilder(drawnPrison());
        int spoilt = random.nextInt(3) == 0 ? 1 + random.nextInt(2) : 0;
        for (int i = 0; i < spoilt; i++) {
            int at = upTo(prison.length());
            int end = Math.min(prison.length(), at + random.nextInt(3));
            prison.replace(at, end, random.nextInt(4) == 0 ? "" : oneOf(WORDS));
        }
        text = prison.toString();
        for (int i = 0; i < text.length(); i += 24) {
            long a = Check.packed(text, i);
            long b = Check.packed(text, i + 8);
            long c = Check.packed(text, i + 16);
            check.due("feed", x.feed(a, b, c), y.feed(a, b, c));
        }
        if (random.nextInt(20) != 0) {
            check.due("prison() of " + text, x.prison(), y.prison());
        }
    }

    private String drawnPrison() {
        StringBuilder prison = new StringBuilder();
        if (random.nextInt(5) != 0) {
            prison.append("weather ").append(drawnWeather()).append(';');
        }
        if (random.nextInt(3) != 0) {
            prison.append("ice ").append(drawnIce()).append(oneOf(";", ";\n", " ; "));
        }
        if (random.nextBoolean()) {
            prison.append("mild ").append(upTo(20)).append(';');
        }
        int cells = random.nextInt(25) == 0 ? 9 : 1 + random.nextInt(8);
        for (int i = 0; i < cells; i++) {
            prison.append("cell ").append((char) ('a' + i)).append(" stove ").append(upTo(3) * upTo(3)).append(';');
        }
        int doors = random.nextInt(25) == 0 ? 11 : upTo(10);
        for (int i = 0; i < doors; i++) {
            int from = random.nextInt(cells);
            int to = random.nextInt(cells);
            String other = from == to ? "out" : "" + (char) ('a' + to);
            prison.append("door ").append((char) ('a' + from)).append(" to ").append(other);
            prison.append(" thick ").append(random.nextInt(3) == 0 ? upTo(99) : upTo(12)).append(';');
        }
        int men = random.nextInt(25) == 0 ? 7 : upTo(6);
        for (int i = 0; i < men; i++) {
            prison.append("man ").append((char) ('p' + i)).append(" in ").append((char) ('a' + random.nextInt(cells)));
            prison.append(" salt ").append(upTo(9)).append(" waits ").append(upTo(3)).append(';');
        }
        int guards = random.nextInt(25) == 0 ? 3 : upTo(2);
        for (int i = 0; i < guards; i++) {
            prison.append("guard");
            int round = random.nextInt(15) == 0 ? 9 : 1 + random.nextInt(8);
            for (int j = 0; j < round; j++) {
                prison.append(' ').append((char) ('a' + random.nextInt(cells)));
            }
            prison.append(';');
        }
        return prison.toString();
    }

    private String drawnWeather() {
        if (random.nextInt(3) != 0) {
            return oneOf("hour-" + upTo(20), "hour*hour-100+mild", "mild-" + upTo(12) + "+day", "(hour<12)*9-4+mild");
        }
        return drawnFormula(WEATHER_FACTS, 0);
    }

    private String drawnIce() {
        if (random.nextInt(3) != 0) {
            return oneOf("0-degrees-stove-salt*3-breath", "0-degrees-salt*" + upTo(5), upTo(6) + "-breath-stove",
                "(water<ice)*9-4", "3-ice+water-salt", "(degrees<0)*5-(breath+salt)*2", "water*2-ice-salt");
        }
        return drawnFormula(ICE_FACTS, 0);
    }

    private String drawnFormula(String[] facts, int depth) {
        StringBuilder formula = new StringBuilder(drawnPart(facts, depth));
        for (int i = upTo(3); i > 0; i--) {
            formula.append(oneOf("+", "-", "*", "*", "-", "+", " and ", " or ", "<", "="));
            formula.append(drawnPart(facts, depth));
        }
        return formula.toString();
    }

    private String drawnPart(String[] facts, int depth) {
        int kind = depth > 5 ? upTo(1) : upTo(4);
        if (kind == 0) {
            return "" + upTo(random.nextBoolean() ? 9 : 9999);
        }
        if (kind < 3) {
            return oneOf(facts);
        }
        return kind == 3 ? "not " + drawnPart(facts, depth + 1) : "(" + drawnFormula(facts, depth + 1) + ")";
    }

    private int number(boolean tame, int most) {
        int kind = random.nextInt(tame ? 12 : 3);
        if (kind > 0) {
            return upTo(most);
        }
        return oneOf("-1", "" + most, "" + (most + 1), "0", "2147483647", "-2147483648").transform(Integer::parseInt);
    }

    private void call(int kind, boolean tame) {
        int i = number(tame, 10);
        int j = number(tame, 6);
        int ahead = number(tame, random.nextInt(4) == 0 ? 240 : 40);
        int w = number(tame, 99);
        String name = " behind " + text + " with " + i + ", " + j + ", " + ahead + ", " + w;
        switch (kind) {
            case 0 -> check.due("cell" + name, x.cell(i, j), y.cell(i, j));
            case 1 -> check.due("door" + name, x.door(i, j), y.door(i, j));
            case 2 -> check.due("man" + name, manOf(j, i % 4), modelManOf(j, i % 4));
            case 3 -> check.due("degrees" + name, degreesOf(w * 100), modelDegreesOf(w * 100));
            case 4 -> check.due("pour" + name, x.pour(i, w), y.pour(i, w));
            case 5, 6 -> check.due("salt" + name, x.salt(j, i), y.salt(j, i));
            case 7 -> check.due("stove" + name, x.stove(j, i), y.stove(j, i));
            case 8 -> check.due("pardon" + name, random.nextInt(4) == 0 && x.pardon(j) == !y.pardon(j), false);
            case 9, 10 -> check.due("hours" + name, x.hours(i), y.hours(i));
            case 11 -> check.due("hours" + name, x.hours(ahead), y.hours(ahead));
            case 12 -> check.due("soon" + name, x.soon(i, ahead), y.soon(i, ahead));
            case 13 -> check.due("needs" + name, x.needs(i, ahead), y.needs(i, ahead));
            case 14 -> check.due("first" + name, x.first(ahead, i), y.first(ahead, i));
            case 15 -> check.due("enough" + name, x.enough(w, ahead), y.enough(w, ahead));
            case 16 -> check.due("plan" + name, x.plan(j, i), y.plan(j, i));
            case 17 -> check.due("escape" + name, x.escape(j, ahead), y.escape(j, ahead));
            case 18 -> check.due("salted" + name, x.salted(i), y.salted(i));
            case 19 -> check.due("beside" + name, x.beside(i), y.beside(i));
            case 20 -> check.due("thaw" + name, x.thaw(ahead), y.thaw(ahead));
            case 21 -> check.due("amnesty" + name, x.amnesty(j, i % 3), y.amnesty(j, i % 3));
            case 22 -> check.due("lots" + name, x.lots(w, j, ahead, i % 3), y.lots(w, j, ahead, i % 3));
            default -> marksAndCounts(i, j);
        }
        whole(name);
    }

    private void marksAndCounts(int i, int j) {
        boolean back = random.nextBoolean();
        check.due("mark", x.mark(j, back), y.mark(j, back));
        check.due("count " + i, x.count(i), y.count(i));
    }

    /** All that can be seen without a change, so that no question leaves one behind. */
    private void whole(String name) {
        for (int what = 0; what < 8; what++) {
            check.due("count " + what + name, x.count(what), y.count(what));
        }
        for (int i = 0; i < x.count(1); i++) {
            for (int what = 0; what < 5; what++) {
                check.due("door " + i + " " + what + name, x.door(i, what), y.door(i, what));
            }
            check.due("beside " + i + name, x.beside(i), y.beside(i));
        }
        for (int i = 0; i < x.count(2); i++) {
            for (int what = 0; what < 3; what++) {
                check.due("man " + i + " " + what + name, manOf(i, what), modelManOf(i, what));
            }
        }
        for (int less = 1; less < 20; less++) {
            check.due("salted " + less + name, x.salted(less), y.salted(less));
        }
    }

    private int manOf(int man, int what) {
        try {
            return x.man(man, what);
        } catch (NoSuchElementException e) {
            return THROWN;
        }
    }

    private int modelManOf(int man, int what) {
        try {
            return y.man(man, what);
        } catch (NoSuchElementException e) {
            return THROWN;
        }
    }

    private int degreesOf(int hours) {
        try {
            return x.degrees(hours);
        } catch (NoSuchElementException e) {
            return THROWN;
        }
    }

    private int modelDegreesOf(int hours) {
        try {
            return y.degrees(hours);
        } catch (NoSuchElementException e) {
            return THROWN;
        }
    }
}
