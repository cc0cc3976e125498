import java.util.ArrayList;
import java.util.Arrays;
import java.util.HashMap;
import java.util.List;
import java.util.Map;
import java.util.NoSuchElementException;

/** The document written down a second time, plainly and slowly, to compare the class with. */
final class PlainModel {
    private static final int NONE = -1;
    private static final List<String> RESERVED = List.of("weather", "ice", "mild", "cell", "stove", "door", "to",
        "out", "thick", "man", "in", "salt", "waits", "guard", "not", "and", "or");

    private static final class Fault extends RuntimeException {
        private static final long serialVersionUID = 1L;
        final int number;

        Fault(int number) {
            this.number = number;
        }
    }

    private record Token(char kind, String text, int place) { }

    private record Tree(String what, int number, Tree left, Tree right) { }

    private static final class Prison {
        Tree weather;
        Tree ice;
        int mild;
        int hour;
        List<Integer> stoves = new ArrayList<>();
        List<int[]> doors = new ArrayList<>();
        List<int[]> locks = new ArrayList<>(); // ice, water, salt, bare ice, bare water, beside
        List<int[]> men = new ArrayList<>(); // cell, salt, day
        List<List<Integer>> guards = new ArrayList<>();

        Prison copy() {
            Prison other = new Prison();
            other.weather = weather;
            other.ice = ice;
            other.mild = mild;
            other.hour = hour;
            other.stoves.addAll(stoves);
            other.doors = doors;
            locks.forEach(lock -> other.locks.add(lock.clone()));
            men.forEach(man -> other.men.add(man.clone()));
            other.guards = guards;
            return other;
        }
    }

    private static final class Reader {
        final List<Token> tokens = new ArrayList<>();
        final List<String> cells = new ArrayList<>();
        final List<String> men = new ArrayList<>();
        final List<String> told = new ArrayList<>();
        final Prison prison = new Prison();
        int at;

        Reader(String text) {
            int i = 0;
            while (i < text.length()) {
                char c = text.charAt(i);
                int end = i + 1;
                if (c >= 'a' && c <= 'z') {
                    while (end < text.length() && text.charAt(end) >= 'a' && text.charAt(end) <= 'z') {
                        end++;
                    }
                    tokens.add(new Token(end - i > 8 ? '?' : 'w', text.substring(i, end), i));
                } else if (c >= '0' && c <= '9') {
                    while (end < text.length() && text.charAt(end) >= '0' && text.charAt(end) <= '9') {
                        end++;
                    }
                    tokens.add(new Token(end - i > 4 ? '?' : 'n', text.substring(i, end), i));
                } else if (c != ' ' && c != '\n') {
                    tokens.add(new Token("()<=+-*;".indexOf(c) >= 0 ? 's' : '?', "" + c, i));
                }
                i = end;
            }
            tokens.add(new Token('e', "", text.length()));
        }

        Token here() {
            return tokens.get(at);
        }

        boolean is(char kind, String text) {
            return here().kind == kind && here().text.equals(text);
        }

        Fault bad(int kind) {
            return new Fault(kind + 16 * here().place);
        }

        void take(char kind, String text) {
            if (!is(kind, text)) {
                throw bad(1);
            }
            at++;
        }

        int number(int most) {
            if (here().kind != 'n') {
                throw bad(1);
            }
            int value = Integer.parseInt(here().text);
            if (value > most) {
                throw bad(4);
            }
            at++;
            return value;
        }

        boolean isName() {
            return here().kind == 'w' && !RESERVED.contains(here().text);
        }

        String newName() {
            if (!isName()) {
                throw bad(1);
            }
            String name = here().text;
            if (cells.contains(name) || men.contains(name)) {
                throw bad(3);
            }
            at++;
            return name;
        }

        int cell() {
            if (!isName()) {
                throw bad(1);
            }
            if (!cells.contains(here().text)) {
                throw bad(2);
            }
            return cells.indexOf(tokens.get(at++).text);
        }

        Prison read() {
            while (here().kind != 'e') {
                String word = here().kind == 'w' ? here().text : "";
                if (told.contains(word)) {
                    throw bad(3);
                }
                if (word.equals("cell") && cells.size() == 8 || word.equals("door") && prison.doors.size() == 10
                    || word.equals("man") && men.size() == 6 || word.equals("guard") && prison.guards.size() == 2) {
                    throw bad(5);
                }
                line(word);
                take('s', ";");
            }
            return prison;
        }

        void line(String word) {
            if (!List.of("weather", "ice", "mild", "cell", "door", "man", "guard").contains(word)) {
                throw bad(1);
            }
            at++;
            if (List.of("weather", "ice", "mild").contains(word)) {
                told.add(word);
            }
            switch (word) {
                case "weather" -> prison.weather = either(List.of("hour", "day", "mild"), 0);
                case "ice" -> prison.ice = either(List.of("degrees", "stove", "salt", "breath", "ice", "water"), 0);
                case "mild" -> prison.mild = number(20);
                case "cell" -> {
                    String name = newName();
                    take('w', "stove");
                    prison.stoves.add(number(9));
                    cells.add(name);
                }
                case "door" -> door();
                case "man" -> {
                    String name = newName();
                    take('w', "in");
                    int cell = cell();
                    take('w', "salt");
                    int salt = number(9);
                    take('w', "waits");
                    prison.men.add(new int[] {cell, salt, number(99)});
                    men.add(name);
                }
                default -> guard();
            }
        }

        void door() {
            int from = cell();
            take('w', "to");
            int to = NONE;
            if (is('w', "out")) {
                at++;
            } else {
                to = cell();
                if (to == from) {
                    at--;
                    throw bad(3);
                }
            }
            take('w', "thick");
            int thick = number(99);
            prison.doors.add(new int[] {from, to});
            prison.locks.add(new int[] {thick, 0, 0, thick, 0, NONE});
        }

        void guard() {
            List<Integer> round = new ArrayList<>();
            do {
                int cell = cell();
                if (round.size() == 8) {
                    at--;
                    throw bad(5);
                }
                round.add(cell);
            } while (isName());
            prison.guards.add(round);
        }

        Tree either(List<String> facts, int depth) {
            Tree left = test(facts, depth);
            while (is('w', "and") || is('w', "or")) {
                String what = tokens.get(at++).text;
                left = new Tree(what, 0, left, test(facts, depth));
            }
            return left;
        }

        Tree test(List<String> facts, int depth) {
            Tree left = sum(facts, depth);
            if (is('s', "<") || is('s', "=")) {
                String what = tokens.get(at++).text;
                left = new Tree(what, 0, left, sum(facts, depth));
            }
            return left;
        }

        Tree sum(List<String> facts, int depth) {
            Tree left = product(facts, depth);
            while (is('s', "+") || is('s', "-")) {
                String what = tokens.get(at++).text;
                left = new Tree(what, 0, left, product(facts, depth));
            }
            return left;
        }

        Tree product(List<String> facts, int depth) {
            Tree left = part(facts, depth);
            while (is('s', "*")) {
                at++;
                left = new Tree("*", 0, left, part(facts, depth));
            }
            return left;
        }

        Tree part(List<String> facts, int depth) {
            Token token = here();
            boolean fact = token.kind == 'w' && facts.contains(token.text);
            if (token.kind != 'n' && !fact && !is('w', "not") && !is('s', "(")) {
                throw bad(1);
            }
            if (depth == 5) {
                throw bad(5);
            }
            at++;
            if (token.kind == 'n') {
                return new Tree("number", Integer.parseInt(token.text), null, null);
            }
            if (fact) {
                return new Tree(token.text, 0, null, null);
            }
            if (token.text.equals("not")) {
                return new Tree("not", 0, part(facts, depth + 1), null);
            }
            Tree inner = either(facts, depth + 1);
            take('s', ")");
            return inner;
        }
    }

    private final StringBuilder tape = new StringBuilder();
    private Prison now = new Prison();
    private final Prison[] marks = new Prison[4];

    private static int value(Tree tree, Map<String, Integer> facts) {
        if (tree.left == null) {
            return tree.what.equals("number") ? tree.number : facts.get(tree.what);
        }
        int left = value(tree.left, facts);
        if (tree.right == null) {
            return left == 0 ? 1 : 0;
        }
        int right = value(tree.right, facts);
        return switch (tree.what) {
            case "and" -> left != 0 && right != 0 ? 1 : 0;
            case "or" -> left != 0 || right != 0 ? 1 : 0;
            case "<" -> left < right ? 1 : 0;
            case "=" -> left == right ? 1 : 0;
            case "+" -> left + right;
            case "-" -> left - right;
            default -> left * right;
        };
    }

    private static int clamp(int value, int most) {
        return Math.max(-most, Math.min(most, value));
    }

    private static boolean in(int number, int least, int most) {
        return least <= number && number <= most;
    }

    private boolean isDoor(int door) {
        return in(door, 0, now.doors.size() - 1);
    }

    private boolean isHeld(int man) {
        return in(man, 0, now.men.size() - 1) && now.men.get(man)[0] != NONE;
    }

    private static int degreesAt(Prison p, int hour, int mild) {
        if (p.weather == null) {
            return -10;
        }
        return clamp(value(p.weather, Map.of("hour", hour % 24, "day", hour / 24, "mild", mild)), 40);
    }

    private static int guardsIn(Prison p, int place) {
        return (int) p.guards.stream().filter(round -> round.get(p.hour % round.size()) == place).count();
    }

    private static int across(Prison p, int door, int cell) {
        int[] sides = p.doors.get(door);
        return sides[0] == cell ? sides[1] : sides[1] == cell ? sides[0] : -2;
    }

    private static int far(Prison p, int place) {
        List<Integer> reached = new ArrayList<>(List.of(NONE));
        for (int far = 0; far <= 8; far++) {
            if (reached.contains(place)) {
                return far;
            }
            for (int from : List.copyOf(reached)) {
                for (int door = 0; door < p.doors.size(); door++) {
                    int to = across(p, door, from);
                    if (to >= 0) {
                        reached.add(to);
                    }
                }
            }
        }
        return NONE;
    }

    private static int iceBehind(Prison p, int degrees, int door, int[] lock) {
        int[] sides = p.doors.get(door);
        Map<String, Integer> facts = new HashMap<>();
        int stove = 0;
        int breath = 0;
        for (int cell : sides) {
            if (cell != NONE) {
                stove += p.stoves.get(cell);
                breath += guardsIn(p, cell) + (int) p.men.stream().filter(man -> man[0] == cell).count();
            }
        }
        int frost = -degrees - stove - lock[2] * 3 - breath;
        if (p.ice != null) {
            facts.putAll(Map.of("degrees", degrees, "stove", stove, "salt", lock[2], "breath", breath));
            facts.putAll(Map.of("ice", lock[0], "water", lock[1]));
            frost = value(p.ice, facts);
        }
        frost = clamp(frost, 20);
        return frost > 0 ? lock[0] + Math.min(frost, lock[1]) : Math.max(0, lock[0] + frost);
    }

    private static void pass(Prison p, int mild) {
        int degrees = degreesAt(p, p.hour, mild);
        for (int door = 0; door < p.doors.size(); door++) {
            int[] lock = p.locks.get(door);
            int held = lock[0] + lock[1];
            lock[0] = iceBehind(p, degrees, door, lock);
            lock[1] = held - lock[0];
            int bareHeld = lock[3] + lock[4];
            lock[3] = iceBehind(p, degrees, door, new int[] {lock[3], lock[4], 0});
            lock[4] = bareHeld - lock[3];
            lock[2] = Math.max(0, lock[2] - 1);
        }
        for (int[] man : p.men) {
            if (man[0] != NONE && p.hour / 24 >= man[2] && guardsIn(p, man[0]) == 0) {
                man[0] = goal(p, man[0]);
            }
        }
        p.hour++;
    }

    private static int goal(Prison p, int cell) {
        int best = cell;
        for (int door = 0; door < p.doors.size(); door++) {
            int to = across(p, door, cell);
            boolean open = to != -2 && p.locks.get(door)[0] == 0 && guardsIn(p, to) == 0 && far(p, to) != NONE;
            if (open && far(p, to) < far(p, best)) {
                best = to;
            }
        }
        return best;
    }

    private static int pourInto(Prison p, int door, int water) {
        int[] lock = p.locks.get(door);
        int taken = Math.min(water, 99 - lock[0] - lock[1]);
        lock[1] += taken;
        lock[4] += Math.min(water, 99 - lock[3] - lock[4]);
        return taken;
    }

    int feed(long... longs) {
        for (long bytes : longs) {
            for (int i = 0; i < 8; i++) {
                int sign = (int) (bytes >>> 56 - 8 * i) & 255;
                if ((sign == 10 || in(sign, 32, 126)) && tape.length() < 1000) {
                    tape.append((char) sign);
                }
            }
        }
        return tape.length();
    }

    int prison() {
        String text = tape.toString();
        tape.setLength(0);
        try {
            now = new Reader(text).read();
            return 0;
        } catch (Fault fault) {
            return fault.number;
        }
    }

    int cell(int cell, int what) {
        if (!in(cell, 0, now.stoves.size() - 1)) {
            return NONE;
        }
        return switch (what) {
            case 0 -> now.stoves.get(cell);
            case 1 -> menIn(new int[] {cell});
            case 2 -> guardsIn(now, cell);
            case 3 -> far(now, cell);
            default -> NONE;
        };
    }

    private int menIn(int[] cells) {
        int bits = 0;
        for (int man = 0; man < now.men.size(); man++) {
            int cell = now.men.get(man)[0];
            if (cell != NONE && Arrays.stream(cells).anyMatch(c -> c == cell)) {
                bits |= 1 << man;
            }
        }
        return bits;
    }

    int door(int door, int what) {
        if (!isDoor(door) || !in(what, 0, 4)) {
            return NONE;
        }
        return what < 3 ? now.locks.get(door)[what] : now.doors.get(door)[what - 3];
    }

    int man(int man, int what) {
        if (!in(man, 0, now.men.size() - 1) || !in(what, 0, 2)) {
            throw new NoSuchElementException();
        }
        return now.men.get(man)[what];
    }

    int degrees(int hours) {
        if (!in(hours, 0, 9999)) {
            throw new NoSuchElementException();
        }
        return degreesAt(now, now.hour + hours, 0);
    }

    int pour(int door, int water) {
        return isDoor(door) && in(water, 0, 99) ? pourInto(now, door, water) : NONE;
    }

    boolean salt(int man, int door) {
        if (!isHeld(man) || !isDoor(door)) {
            return false;
        }
        int[] his = now.men.get(man);
        int[] lock = now.locks.get(door);
        if (his[1] == 0 || across(now, door, his[0]) == -2) {
            return false;
        }
        his[1]--;
        lock[2]++;
        if (lock[5] == NONE) {
            lock[5] = menIn(now.doors.get(door));
        }
        return true;
    }

    boolean stove(int cell, int heat) {
        if (!in(cell, 0, now.stoves.size() - 1) || !in(heat, 0, 9)) {
            return false;
        }
        now.stoves.set(cell, heat);
        return true;
    }

    boolean pardon(int man) {
        if (!isHeld(man)) {
            return false;
        }
        now.men.get(man)[0] = NONE;
        return true;
    }

    int hours(int many) {
        if (!in(many, 1, 1000)) {
            return NONE;
        }
        for (int i = 0; i < many; i++) {
            pass(now, 0);
        }
        return now.hour;
    }

    int soon(int door, int hours) {
        if (!isDoor(door) || !in(hours, 1, 240)) {
            return NONE;
        }
        Prison p = now.copy();
        for (int i = 0; i <= hours; i++) {
            if (p.locks.get(door)[0] == 0) {
                return i;
            }
            pass(p, 0);
        }
        return NONE;
    }

    int needs(int door, int hours) {
        if (!isDoor(door) || !in(hours, 1, 240)) {
            return NONE;
        }
        int room = 99 - now.locks.get(door)[0] - now.locks.get(door)[1];
        for (int water = 0; water <= room; water++) {
            Prison p = now.copy();
            pourInto(p, door, water);
            boolean loose = false;
            for (int i = 0; i < hours && !loose; i++) {
                pass(p, 0);
                loose = p.locks.get(door)[0] == 0;
            }
            if (!loose) {
                return water;
            }
        }
        return NONE;
    }

    private List<Integer> order(int hours) {
        List<Integer> doors = new ArrayList<>();
        for (int door = 0; door < now.doors.size(); door++) {
            doors.add(door);
        }
        doors.sort((a, b) -> Integer.compareUnsigned(soon(a, hours), soon(b, hours)));
        return doors;
    }

    int first(int hours, int i) {
        return in(hours, 1, 240) && isDoor(i) ? order(hours).get(i) : NONE;
    }

    int enough(int water, int hours) {
        if (!in(water, 0, 99) || !in(hours, 1, 240)) {
            return NONE;
        }
        List<Integer> doors = order(hours);
        Prison p = now.copy();
        for (int i = 0; i < hours; i++) {
            if (i < doors.size()) {
                pourInto(p, doors.get(i), water);
            }
            pass(p, 0);
            if (p.locks.stream().anyMatch(lock -> lock[0] == 0)) {
                return 0;
            }
        }
        return 1;
    }

    int plan(int man, int what) {
        if (!isHeld(man) || what < 0) {
            return NONE;
        }
        List<List<Integer>> ways = new ArrayList<>();
        findWays(now.men.get(man)[0], new ArrayList<>(), new ArrayList<>(), ways);
        if (ways.isEmpty()) {
            return NONE;
        }
        ways.sort((a, b) -> {
            int order = Integer.compare(cost(a), cost(b));
            order = order != 0 ? order : Integer.compare(a.size(), b.size());
            for (int i = 0; i < a.size() && order == 0; i++) {
                order = Integer.compare(a.get(i), b.get(i));
            }
            return order;
        });
        List<Integer> way = ways.get(0);
        if (what < 2) {
            return what == 0 ? cost(way) : way.size();
        }
        return what - 2 < way.size() ? way.get(what - 2) : NONE;
    }

    private int cost(List<Integer> way) {
        return way.stream().mapToInt(door -> (now.locks.get(door)[0] + 4) / 5).sum();
    }

    private void findWays(int place, List<Integer> seen, List<Integer> way, List<List<Integer>> ways) {
        if (place == NONE) {
            ways.add(List.copyOf(way));
            return;
        }
        seen.add(place);
        for (int door = 0; door < now.doors.size(); door++) {
            int to = across(now, door, place);
            if (to != -2 && !seen.contains(to)) {
                way.add(door);
                findWays(to, seen, way, ways);
                way.remove(way.size() - 1);
            }
        }
        seen.remove(seen.size() - 1);
    }

    int escape(int man, int hours) {
        if (!isHeld(man) || !in(hours, 1, 240)) {
            return NONE;
        }
        Prison p = now.copy();
        for (int i = 1; i <= hours; i++) {
            pass(p, 0);
            if (p.men.get(man)[0] == NONE) {
                return i;
            }
        }
        return NONE;
    }

    int salted(int less) {
        if (!in(less, 1, 99)) {
            return NONE;
        }
        int bits = 0;
        for (int door = 0; door < now.doors.size(); door++) {
            bits |= now.locks.get(door)[3] - now.locks.get(door)[0] >= less ? 1 << door : 0;
        }
        return bits;
    }

    int beside(int door) {
        return isDoor(door) ? now.locks.get(door)[5] : NONE;
    }

    int thaw(int hours) {
        for (int i = 0; i <= hours && in(hours, 1, 240); i++) {
            if (degreesAt(now, now.hour + i, 0) >= 0) {
                return i;
            }
        }
        return NONE;
    }

    int amnesty(int n, int what) {
        int held = count(5);
        if (held == 0 || !in(n, 0, held) || !in(what, 0, 1)) {
            return NONE;
        }
        int a = n;
        int b = held;
        while (b != 0) {
            int rest = a % b;
            a = b;
            b = rest;
        }
        return what == 0 ? n / a : held / a;
    }

    int lots(int seed, int many, int hours, int what) {
        if (!in(seed, 0, 9999) || !in(many, 1, 20) || !in(hours, 1, 120) || !in(what, 0, 1)) {
            return NONE;
        }
        long g = seed;
        int men = 0;
        int loose = 0;
        for (int i = 0; i < many; i++) {
            Prison p = now.copy();
            for (int j = 0; j < hours; j++) {
                g = (g * 1103515245L + 12345L) % 2147483648L;
                pass(p, (int) (g / 65536 % (p.mild + 1)));
                loose += p.locks.stream().anyMatch(lock -> lock[0] == 0) ? 1 : 0;
            }
            men += (int) p.men.stream().filter(man -> man[0] == NONE).count();
        }
        return what == 0 ? men : loose;
    }

    boolean mark(int mark, boolean back) {
        if (!in(mark, 0, 3) || back && marks[mark] == null) {
            return false;
        }
        if (back) {
            now = marks[mark].copy();
        } else {
            marks[mark] = now.copy();
        }
        return true;
    }

    int count(int what) {
        return switch (what) {
            case 0 -> now.stoves.size();
            case 1 -> now.doors.size();
            case 2 -> now.men.size();
            case 3 -> now.guards.size();
            case 4 -> now.hour;
            case 5 -> (int) now.men.stream().filter(man -> man[0] != NONE).count();
            case 6 -> now.mild;
            case 7 -> tape.length();
            default -> NONE;
        };
    }
}
