import java.util.Arrays;
import java.util.NoSuchElementException;

/** A prison in the north whose locks are water, poured at dusk. */
public final class FrostLocks {
    public static final int NONE = -1;

    // Outside is told as NONE by the face, so a door that is none of a cell's needs another number.
    private static final int OUTSIDE = NONE;
    private static final int NOWHERE = -2;

    private static final int MOST_CELLS = 8;
    private static final int MOST_DOORS = 10;
    private static final int MOST_MEN = 6;
    private static final int MOST_GUARDS = 2;
    private static final int MOST_ROUND = 8;
    private static final int MOST_MARKS = 4;
    private static final int MOST_STOVE = 9;
    private static final int MOST_SALT = 9;
    private static final int MOST_MILD = 20;
    private static final int MOST_WAIT = 99;
    private static final int FULL_LOCK = 99;
    private static final int MOST_HOURS = 1000;
    private static final int MOST_AHEAD = 240;
    private static final int MOST_DEGREES_AHEAD = 9999;
    private static final int MOST_SEED = 9999;
    private static final int MOST_FEBRUARIES = 20;
    private static final int MOST_FEBRUARY_HOURS = 120;
    private static final int ICE_BY_SALT = 5;

    // A way's weight is its salt times this and its doors, so that one number compares both.
    private static final int SALT_WEIGHT = 100;

    // The facts' places in a row of facts.
    private static final int HOUR = 0;
    private static final int DAY = 1;
    private static final int MILD = 2;
    private static final int DEGREES = 3;
    private static final int STOVE = 4;
    private static final int SALT = 5;
    private static final int BREATH = 6;
    private static final int ICE = 7;
    private static final int WATER = 8;
    private static final int FACTS = 9;

    private final Tape tape;
    private final Night now;
    private final Night trial;
    private final Night[] marks;
    private final int[] soonest;
    private final int[] order;
    private final int[] coldAhead;
    private final int[] breathAhead;
    private final int[] weights;

    public FrostLocks() {
        tape = new Tape();
        Law untold = new Law();
        now = new Night(untold);
        trial = new Night(untold);
        marks = new Night[MOST_MARKS];
        soonest = new int[MOST_DOORS];
        order = new int[MOST_DOORS];
        coldAhead = new int[MOST_AHEAD];
        breathAhead = new int[MOST_AHEAD];
        weights = new int[MOST_CELLS];
    }

    public int feed(long a, long b, long c) {
        tape.addBytes(a);
        tape.addBytes(b);
        tape.addBytes(c);
        return tape.length;
    }

    public int prison() {
        PrisonReader reader = new PrisonReader(tape);
        int fault = reader.readAll();
        tape.length = 0;
        if (fault == 0) {
            now.begin(reader.law);
        }
        return fault;
    }

    public int cell(int cell, int what) {
        if (!isBelow(cell, now.law.cells)) {
            return NONE;
        }
        switch (what) {
            case 0:
                return now.stoves[cell];
            case 1:
                return now.menIn(cell, NONE);
            case 2:
                return now.guardsIn(cell);
            case 3:
                return now.law.farOf(cell);
            default:
                return NONE;
        }
    }

    public int door(int door, int what) {
        if (!isBelow(door, now.law.doors)) {
            return NONE;
        }
        switch (what) {
            case 0:
                return now.locks[door].ice;
            case 1:
                return now.locks[door].water;
            case 2:
                return now.locks[door].salt;
            case 3:
                return now.law.doorCell[door];
            case 4:
                return now.law.doorOther[door];
            default:
                return NONE;
        }
    }

    public int man(int man, int what) throws NoSuchElementException {
        if (!isBelow(man, now.law.men)) {
            throw new NoSuchElementException("no such man");
        }
        switch (what) {
            case 0:
                return now.manCell[man];
            case 1:
                return now.manSalt[man];
            case 2:
                return now.law.manDay[man];
            default:
                throw new NoSuchElementException("nothing such of a man");
        }
    }

    public int degrees(int hours) throws NoSuchElementException {
        if (!isWithin(hours, 0, MOST_DEGREES_AHEAD)) {
            throw new NoSuchElementException("no such hours");
        }
        return now.degreesBehind(hours, 0);
    }

    public int pour(int door, int water) {
        if (!isBelow(door, now.law.doors) || !isWithin(water, 0, FULL_LOCK)) {
            return NONE;
        }
        return now.locks[door].takeWater(water);
    }

    public boolean salt(int man, int door) {
        if (!isHeld(man) || !isBelow(door, now.law.doors)) {
            return false;
        }
        if (now.manSalt[man] <= 0 || now.law.across(door, now.manCell[man]) == NOWHERE) {
            return false;
        }
        now.laySalt(man, door);
        return true;
    }

    public boolean stove(int cell, int heat) {
        if (!isBelow(cell, now.law.cells) || !isWithin(heat, 0, MOST_STOVE)) {
            return false;
        }
        now.stoves[cell] = heat;
        return true;
    }

    public boolean pardon(int man) {
        if (!isHeld(man)) {
            return false;
        }
        now.manCell[man] = OUTSIDE;
        return true;
    }

    public int hours(int many) {
        if (!isWithin(many, 1, MOST_HOURS)) {
            return NONE;
        }
        for (int i = 0; i < many; i++) {
            now.passHour(0);
        }
        return now.hour;
    }

    public int soon(int door, int hours) {
        if (!isBelow(door, now.law.doors) || !isAhead(hours)) {
            return NONE;
        }
        trial.copyFrom(now);
        for (int i = 0; i <= hours; i++) {
            if (trial.locks[door].isLoose()) {
                return i;
            }
            trial.passHour(0);
        }
        return NONE;
    }

    public int needs(int door, int hours) {
        if (!isBelow(door, now.law.doors) || !isAhead(hours)) {
            return NONE;
        }
        foresee(door, hours);
        int room = FULL_LOCK - now.locks[door].held();
        for (int water = 0; water <= room; water++) {
            if (isFirmWith(water, door, hours)) {
                return water;
            }
        }
        return NONE;
    }

    public int first(int hours, int i) {
        if (!isAhead(hours) || !isBelow(i, now.law.doors)) {
            return NONE;
        }
        findSoonest(hours);
        orderDoors();
        return order[i];
    }

    public int enough(int water, int hours) {
        if (!isWithin(water, 0, FULL_LOCK) || !isAhead(hours)) {
            return NONE;
        }
        findSoonest(hours);
        orderDoors();
        trial.copyFrom(now);
        for (int i = 0; i < hours; i++) {
            if (i < now.law.doors) {
                trial.locks[order[i]].takeWater(water);
            }
            trial.passHour(0);
            if (trial.someLoose()) {
                return 0;
            }
        }
        return 1;
    }

    public int plan(int man, int what) {
        if (!isHeld(man) || what < 0) {
            return NONE;
        }
        weighWays();
        int cell = now.manCell[man];
        int weight = weights[cell];
        if (weight == NONE) {
            return NONE;
        }
        if (what == 0) {
            return weight / SALT_WEIGHT;
        }
        int doors = weight % SALT_WEIGHT;
        if (what == 1) {
            return doors;
        }
        return what - 2 < doors ? doorOfWay(cell, what - 2) : NONE;
    }

    public int escape(int man, int hours) {
        if (!isHeld(man) || !isAhead(hours)) {
            return NONE;
        }
        trial.copyFrom(now);
        for (int i = 1; i <= hours; i++) {
            trial.passHour(0);
            if (trial.manCell[man] == OUTSIDE) {
                return i;
            }
        }
        return NONE;
    }

    public int salted(int less) {
        if (!isWithin(less, 1, FULL_LOCK)) {
            return NONE;
        }
        int bits = 0;
        for (int door = 0; door < now.law.doors; door++) {
            Lock lock = now.locks[door];
            if (lock.bareIce - lock.ice >= less) {
                bits |= 1 << door;
            }
        }
        return bits;
    }

    public int beside(int door) {
        return isBelow(door, now.law.doors) ? now.locks[door].menBeside : NONE;
    }

    public int thaw(int hours) {
        if (!isAhead(hours)) {
            return NONE;
        }
        for (int i = 0; i <= hours; i++) {
            if (now.degreesBehind(i, 0) >= 0) {
                return i;
            }
        }
        return NONE;
    }

    public int amnesty(int n, int what) {
        int held = now.menHeld();
        if (held == 0 || !isWithin(n, 0, held) || !isWithin(what, 0, 1)) {
            return NONE;
        }
        int divisor = held;
        while (divisor > 1 && (n % divisor != 0 || held % divisor != 0)) {
            divisor--;
        }
        return (what == 0 ? n : held) / divisor;
    }

    public int lots(int seed, int many, int hours, int what) {
        if (!isWithin(seed, 0, MOST_SEED) || !isWithin(many, 1, MOST_FEBRUARIES)) {
            return NONE;
        }
        if (!isWithin(hours, 1, MOST_FEBRUARY_HOURS) || !isWithin(what, 0, 1)) {
            return NONE;
        }
        Draws draws = new Draws(seed);
        int men = 0;
        int looseHours = 0;
        for (int i = 0; i < many; i++) {
            trial.copyFrom(now);
            for (int j = 0; j < hours; j++) {
                trial.passHour(draws.drawBelow(now.law.mild + 1));
                looseHours += trial.someLoose() ? 1 : 0;
            }
            men += now.law.men - trial.menHeld();
        }
        return what == 0 ? men : looseHours;
    }

    public boolean mark(int mark, boolean back) {
        if (!isBelow(mark, MOST_MARKS)) {
            return false;
        }
        if (back) {
            if (marks[mark] == null) {
                return false;
            }
            now.copyFrom(marks[mark]);
            return true;
        }
        if (marks[mark] == null) {
            marks[mark] = new Night(now.law);
        }
        marks[mark].copyFrom(now);
        return true;
    }

    public int count(int what) {
        switch (what) {
            case 0:
                return now.law.cells;
            case 1:
                return now.law.doors;
            case 2:
                return now.law.men;
            case 3:
                return now.law.guards;
            case 4:
                return now.hour;
            case 5:
                return now.menHeld();
            case 6:
                return now.law.mild;
            case 7:
                return tape.length;
            default:
                return NONE;
        }
    }

    private static boolean isBelow(int number, int many) {
        return number >= 0 && number < many;
    }

    private static boolean isWithin(int number, int least, int most) {
        return number >= least && number <= most;
    }

    private static boolean isAhead(int hours) {
        return isWithin(hours, 1, MOST_AHEAD);
    }

    private boolean isHeld(int man) {
        return isBelow(man, now.law.men) && now.manCell[man] != OUTSIDE;
    }

    /** A door that is not loose within the hours gets one more than these, so that it comes last. */
    private void findSoonest(int hours) {
        Arrays.fill(soonest, hours + 1);
        trial.copyFrom(now);
        int missing = noteLoose(0, hours);
        for (int i = 1; i <= hours && missing > 0; i++) {
            trial.passHour(0);
            missing = noteLoose(i, hours);
        }
    }

    private int noteLoose(int behind, int hours) {
        int missing = 0;
        for (int door = 0; door < now.law.doors; door++) {
            if (soonest[door] > hours) {
                if (trial.locks[door].isLoose()) {
                    soonest[door] = behind;
                } else {
                    missing++;
                }
            }
        }
        return missing;
    }

    private void orderDoors() {
        for (int door = 0; door < now.law.doors; door++) {
            int at = door;
            while (at > 0 && soonest[order[at - 1]] > soonest[door]) {
                order[at] = order[at - 1];
                at--;
            }
            order[at] = door;
        }
    }

    /** Keeps the cold and the breaths about a door in each of the hours, if it is never loose. */
    private void foresee(int door, int hours) {
        trial.copyFrom(now);
        // Only waters by which the door is never loose are asked for, so no man ever goes through it.
        trial.barred = door;
        for (int i = 0; i < hours; i++) {
            coldAhead[i] = trial.degreesBehind(0, 0);
            breathAhead[i] = trial.breathAt(door);
            trial.passHour(0);
        }
    }

    private boolean isFirmWith(int water, int door, int hours) {
        Lock lock = now.locks[door];
        int held = lock.held() + water;
        int ice = lock.ice;
        int stove = now.stoveAt(door);
        for (int i = 0; i < hours; i++) {
            trial.setAround(coldAhead[i], stove, breathAhead[i]);
            ice = trial.iceBehind(lock.saltBehind(i), ice, held - ice);
            if (ice == 0) {
                return false;
            }
        }
        return true;
    }

    private int doorWeight(int door) {
        return (now.locks[door].ice + ICE_BY_SALT - 1) / ICE_BY_SALT * SALT_WEIGHT + 1;
    }

    private int weightOf(int place) {
        return place == OUTSIDE ? 0 : weights[place];
    }

    /** The least weight of each cell's ways to outside: no way has more doors than there are cells. */
    private void weighWays() {
        Arrays.fill(weights, NONE);
        for (int i = 0; i < now.law.cells; i++) {
            for (int door = 0; door < now.law.doors; door++) {
                weighDoor(door, now.law.doorCell[door], now.law.doorOther[door]);
                weighDoor(door, now.law.doorOther[door], now.law.doorCell[door]);
            }
        }
    }

    private void weighDoor(int door, int from, int to) {
        if (from == OUTSIDE || weightOf(to) == NONE) {
            return;
        }
        int weight = doorWeight(door) + weightOf(to);
        if (weights[from] == NONE || weight < weights[from]) {
            weights[from] = weight;
        }
    }

    private int doorOfWay(int cell, int i) {
        int place = cell;
        for (int step = 0; step <= i && place != OUTSIDE; step++) {
            int door = firstDoorOfWay(place);
            if (door == NONE || step == i) {
                return door;
            }
            place = now.law.across(door, place);
        }
        return NONE;
    }

    private int firstDoorOfWay(int cell) {
        for (int door = 0; door < now.law.doors; door++) {
            int to = now.law.across(door, cell);
            if (to != NOWHERE && weightOf(to) != NONE && doorWeight(door) + weightOf(to) == weights[cell]) {
                return door;
            }
        }
        return NONE;
    }

    /** The signs that came and were not read yet. */
    private static final class Tape {
        static final int MOST = 1000;

        final byte[] signs = new byte[MOST];
        int length;

        void addBytes(long bytes) {
            for (int shift = 56; shift >= 0; shift -= 8) {
                int sign = (int) (bytes >> shift) & 255;
                boolean taken = sign == '\n' || isWithin(sign, 32, 126);
                if (taken && length < MOST) {
                    signs[length] = (byte) sign;
                    length++;
                }
            }
        }
    }

    /** The words that mean something; the reserved ones are no names. */
    private enum Word {
        WEATHER("weather", true, NONE),
        ICE_WORD("ice", true, ICE),
        MILD_WORD("mild", true, MILD),
        CELL("cell", true, NONE),
        STOVE_WORD("stove", true, STOVE),
        DOOR("door", true, NONE),
        TO("to", true, NONE),
        OUT("out", true, NONE),
        THICK("thick", true, NONE),
        MAN("man", true, NONE),
        IN("in", true, NONE),
        SALT_WORD("salt", true, SALT),
        WAITS("waits", true, NONE),
        GUARD("guard", true, NONE),
        NOT("not", true, NONE),
        AND("and", true, NONE),
        OR("or", true, NONE),
        HOUR_WORD("hour", false, HOUR),
        DAY_WORD("day", false, DAY),
        DEGREES_WORD("degrees", false, DEGREES),
        BREATH_WORD("breath", false, BREATH),
        WATER_WORD("water", false, WATER);

        private static final Word[] ALL = values();

        final long name;
        final boolean reserved;
        final int fact;

        Word(String text, boolean reserved, int fact) {
            long packed = 0;
            for (int i = 0; i < text.length(); i++) {
                packed = packed * Tokens.LETTERS + text.charAt(i) % Tokens.LETTERS;
            }
            this.name = packed;
            this.reserved = reserved;
            this.fact = fact;
        }

        static Word named(long name) {
            for (int i = 0; i < ALL.length; i++) {
                if (ALL[i].name == name) {
                    return ALL[i];
                }
            }
            return null;
        }
    }

    /** The tape's tokens, one after the other; a word is kept as a number of its letters. */
    private static final class Tokens {
        static final int END = 0;
        static final int NO_TOKEN = 1;
        static final int WORD = 2;
        static final int NUMBER = 3;
        static final int SIGN = 4;
        static final int MOST_LETTERS = 8;
        static final int MOST_DIGITS = 4;
        static final String SIGNS = "()<=+-*;";

        // A letter's number modulo this is its place in the alphabet, so no two words of eight pack alike.
        static final int LETTERS = 32;

        final byte[] signs;
        final int length;
        int at;
        int kind;
        int place;
        int number;
        int sign;
        long name;
        Word word;

        Tokens(Tape tape) {
            signs = tape.signs;
            length = Math.min(tape.length, tape.signs.length);
        }

        boolean isSign(int wanted) {
            return kind == SIGN && sign == wanted;
        }

        boolean isName() {
            return kind == WORD && (word == null || !word.reserved);
        }

        void next() {
            while (at < length && (signs[at] == ' ' || signs[at] == '\n')) {
                at++;
            }
            place = at;
            word = null;
            if (at >= length) {
                kind = END;
            } else if (isWithin(signs[at], 'a', 'z')) {
                takeWord();
                word = kind == WORD ? Word.named(name) : null;
            } else if (isWithin(signs[at], '0', '9')) {
                takeNumber();
            } else {
                sign = signs[at];
                kind = SIGNS.indexOf((char) sign) >= 0 ? SIGN : NO_TOKEN;
                at++;
            }
        }

        private void takeWord() {
            name = 0;
            while (at < length && signs[at] >= 'a' && signs[at] <= 'z') {
                name = name * LETTERS + signs[at] % LETTERS;
                at++;
            }
            kind = at - place <= MOST_LETTERS ? WORD : NO_TOKEN;
        }

        private void takeNumber() {
            number = 0;
            while (at < length && signs[at] >= '0' && signs[at] <= '9') {
                number = number * 10 + (signs[at] - '0');
                at++;
            }
            kind = at - place <= MOST_DIGITS ? NUMBER : NO_TOKEN;
        }
    }

    /** An E of the language, as steps over a stack. */
    private static final class Formula {
        static final int PUT_NUMBER = 0;
        static final int PUT_FACT = 1;
        static final int NOT = 2;
        static final int AND = 3;
        static final int OR = 4;
        static final int LESS = 5;
        static final int EQUAL = 6;
        static final int PLUS = 7;
        static final int MINUS = 8;
        static final int TIMES = 9;
        static final int STEPS = 16;

        // Four operators may wait in each of five depths, and one number more.
        private static final int STACK = 32;

        private final int[] steps;
        private final int[] stack = new int[STACK];

        Formula(int[] steps, int length) {
            this.steps = Arrays.copyOf(steps, length);
        }

        static int stepOf(int what, int number) {
            return number * STEPS + what;
        }

        int valueBy(int[] facts) {
            int top = 0;
            for (int i = 0; i < steps.length; i++) {
                int what = steps[i] % STEPS;
                int number = steps[i] / STEPS;
                if (what == PUT_NUMBER || what == PUT_FACT) {
                    if (top < STACK) {
                        stack[top] = what == PUT_NUMBER ? number : factOf(facts, number);
                        top++;
                    }
                } else if (what == NOT) {
                    if (top > 0) {
                        stack[top - 1] = stack[top - 1] == 0 ? 1 : 0;
                    }
                } else if (top > 1) {
                    top--;
                    stack[top - 1] = joined(what, stack[top - 1], stack[top]);
                }
            }
            return stack[0];
        }

        private static int factOf(int[] facts, int fact) {
            return fact >= 0 && fact < facts.length ? facts[fact] : 0;
        }

        private static int joined(int what, int left, int right) {
            switch (what) {
                case AND:
                    return left != 0 && right != 0 ? 1 : 0;
                case OR:
                    return left != 0 || right != 0 ? 1 : 0;
                case LESS:
                    return left < right ? 1 : 0;
                case EQUAL:
                    return left == right ? 1 : 0;
                case PLUS:
                    return left + right;
                case MINUS:
                    return left - right;
                default:
                    return left * right;
            }
        }
    }

    /** A prison as it was told: what no hour and no hand changes. */
    private static final class Law {
        int cells;
        int doors;
        int men;
        int guards;
        int mild;
        Formula weather;
        Formula ice;
        final int[] stoves = new int[MOST_CELLS];
        final int[] far = new int[MOST_CELLS];
        final int[] doorCell = new int[MOST_DOORS];
        final int[] doorOther = new int[MOST_DOORS];
        final int[] thick = new int[MOST_DOORS];
        final int[] manCell = new int[MOST_MEN];
        final int[] manSalt = new int[MOST_MEN];
        final int[] manDay = new int[MOST_MEN];
        final int[] rounds = new int[MOST_GUARDS * MOST_ROUND];
        final int[] roundLength = new int[MOST_GUARDS];

        int across(int door, int cell) {
            if (doorCell[door] == cell) {
                return doorOther[door];
            }
            return doorOther[door] == cell ? doorCell[door] : NOWHERE;
        }

        int farOf(int place) {
            return place == OUTSIDE ? 0 : far[place];
        }

        int guardCell(int guard, int hour) {
            int length = roundLength[guard];
            return length > 0 ? rounds[guard * MOST_ROUND + Math.floorMod(hour, length)] : NOWHERE;
        }

        void measureFar() {
            Arrays.fill(far, NONE);
            for (int i = 0; i < cells; i++) {
                for (int door = 0; door < doors; door++) {
                    measureDoor(doorCell[door], doorOther[door]);
                    measureDoor(doorOther[door], doorCell[door]);
                }
            }
        }

        private void measureDoor(int from, int to) {
            if (from == OUTSIDE || farOf(to) == NONE) {
                return;
            }
            if (far[from] == NONE || farOf(to) + 1 < far[from]) {
                far[from] = farOf(to) + 1;
            }
        }
    }

    /** Reads the tape as a prison; a method that finds a token wrong notes the fault and answers false. */
    private static final class PrisonReader {
        static final int CANT_STAND = 1;
        static final int NO_CELL = 2;
        static final int TOLD_ALREADY = 3;
        static final int NOT_AS_TOLD = 4;
        static final int TOO_MANY = 5;
        static final int PLACES = 16;
        static final int MOST_DEPTH = 5;

        // Operators by how loosely they bind; parts stand behind the last level.
        static final int COMPARING = 1;
        static final int PARTS = 4;

        final Law law = new Law();
        private final Tokens tokens;
        private final long[] cellNames = new long[MOST_CELLS];
        private final long[] manNames = new long[MOST_MEN];
        private final int[] steps;
        private int stepCount;
        private int firstFact;
        private int lastFact;
        private boolean mildTold;
        private int number;
        private int fault;

        PrisonReader(Tape tape) {
            tokens = new Tokens(tape);
            // Each step comes from a token of its own, so there are no more steps than signs.
            steps = new int[tokens.length];
        }

        int readAll() {
            tokens.next();
            for (int i = 0; i <= Tape.MOST && tokens.kind != Tokens.END; i++) {
                if (!readLine()) {
                    return fault;
                }
            }
            law.measureFar();
            return 0;
        }

        private boolean wrong(int kind) {
            fault = kind + PLACES * tokens.place;
            return false;
        }

        private boolean readLine() {
            boolean right;
            Word word = tokens.word;
            if (word == Word.WEATHER) {
                right = readFormula(true);
            } else if (word == Word.ICE_WORD) {
                right = readFormula(false);
            } else if (word == Word.MILD_WORD) {
                right = readMild();
            } else if (word == Word.CELL) {
                right = readCell();
            } else if (word == Word.DOOR) {
                right = readDoor();
            } else if (word == Word.MAN) {
                right = readMan();
            } else if (word == Word.GUARD) {
                right = readGuard();
            } else {
                right = wrong(CANT_STAND);
            }
            return right && readLineEnd();
        }

        private boolean readFormula(boolean ofWeather) {
            if ((ofWeather ? law.weather : law.ice) != null) {
                return wrong(TOLD_ALREADY);
            }
            firstFact = ofWeather ? HOUR : DEGREES;
            lastFact = ofWeather ? MILD : WATER;
            stepCount = 0;
            tokens.next();
            if (!readLevel(0, 0)) {
                return false;
            }
            Formula told = new Formula(steps, stepCount);
            if (ofWeather) {
                law.weather = told;
            } else {
                law.ice = told;
            }
            return true;
        }

        private boolean readMild() {
            if (mildTold) {
                return wrong(TOLD_ALREADY);
            }
            tokens.next();
            if (!readNumber(MOST_MILD)) {
                return false;
            }
            mildTold = true;
            law.mild = number;
            return true;
        }

        private boolean readCell() {
            int cell = law.cells;
            if (cell >= MOST_CELLS) {
                return wrong(TOO_MANY);
            }
            tokens.next();
            if (!isNewName()) {
                return false;
            }
            cellNames[cell] = tokens.name;
            tokens.next();
            if (!readWord(Word.STOVE_WORD) || !readNumber(MOST_STOVE)) {
                return false;
            }
            law.stoves[cell] = number;
            law.cells++;
            return true;
        }

        private boolean readDoor() {
            int door = law.doors;
            if (door >= MOST_DOORS) {
                return wrong(TOO_MANY);
            }
            tokens.next();
            if (!isCellName()) {
                return false;
            }
            law.doorCell[door] = cellNamed(tokens.name);
            tokens.next();
            if (!readWord(Word.TO) || !readOther(door) || !readWord(Word.THICK) || !readNumber(FULL_LOCK)) {
                return false;
            }
            law.thick[door] = number;
            law.doors++;
            return true;
        }

        private boolean readOther(int door) {
            int other = OUTSIDE;
            if (tokens.word != Word.OUT) {
                if (!isCellName()) {
                    return false;
                }
                other = cellNamed(tokens.name);
                if (other == law.doorCell[door]) {
                    return wrong(TOLD_ALREADY);
                }
            }
            law.doorOther[door] = other;
            tokens.next();
            return true;
        }

        private boolean readMan() {
            int man = law.men;
            if (man >= MOST_MEN) {
                return wrong(TOO_MANY);
            }
            tokens.next();
            if (!isNewName()) {
                return false;
            }
            manNames[man] = tokens.name;
            tokens.next();
            if (!readWord(Word.IN) || !isCellName()) {
                return false;
            }
            law.manCell[man] = cellNamed(tokens.name);
            tokens.next();
            if (!readWord(Word.SALT_WORD) || !readNumber(MOST_SALT)) {
                return false;
            }
            law.manSalt[man] = number;
            if (!readWord(Word.WAITS) || !readNumber(MOST_WAIT)) {
                return false;
            }
            law.manDay[man] = number;
            law.men++;
            return true;
        }

        private boolean readGuard() {
            int guard = law.guards;
            if (guard >= MOST_GUARDS) {
                return wrong(TOO_MANY);
            }
            tokens.next();
            int length = 0;
            while (length < MOST_ROUND && (length == 0 || tokens.isName())) {
                if (!isCellName()) {
                    return false;
                }
                law.rounds[guard * MOST_ROUND + length] = cellNamed(tokens.name);
                length++;
                tokens.next();
            }
            if (tokens.isName()) {
                return isCellName() && wrong(TOO_MANY);
            }
            law.roundLength[guard] = length;
            law.guards++;
            return true;
        }

        private boolean readLineEnd() {
            if (!tokens.isSign(';')) {
                return wrong(CANT_STAND);
            }
            tokens.next();
            return true;
        }

        private boolean readWord(Word word) {
            if (tokens.word != word) {
                return wrong(CANT_STAND);
            }
            tokens.next();
            return true;
        }

        private boolean readNumber(int most) {
            if (tokens.kind != Tokens.NUMBER) {
                return wrong(CANT_STAND);
            }
            if (tokens.number > most) {
                return wrong(NOT_AS_TOLD);
            }
            number = tokens.number;
            tokens.next();
            return true;
        }

        private boolean isNewName() {
            if (!tokens.isName()) {
                return wrong(CANT_STAND);
            }
            boolean told = cellNamed(tokens.name) != NONE;
            for (int man = 0; man < law.men; man++) {
                told = told || manNames[man] == tokens.name;
            }
            return !told || wrong(TOLD_ALREADY);
        }

        private boolean isCellName() {
            if (!tokens.isName()) {
                return wrong(CANT_STAND);
            }
            return cellNamed(tokens.name) != NONE || wrong(NO_CELL);
        }

        private int cellNamed(long name) {
            for (int cell = 0; cell < law.cells; cell++) {
                if (cellNames[cell] == name) {
                    return cell;
                }
            }
            return NONE;
        }

        private boolean readLevel(int level, int depth) {
            if (level >= PARTS) {
                return readPart(depth);
            }
            if (!readLevel(level + 1, depth)) {
                return false;
            }
            int most = level == COMPARING ? 1 : Tape.MOST;
            for (int i = 0; i < most; i++) {
                int operator = operatorOf(level);
                if (operator == NONE) {
                    return true;
                }
                tokens.next();
                if (!readLevel(level + 1, depth)) {
                    return false;
                }
                addStep(operator, 0);
            }
            return true;
        }

        private int operatorOf(int level) {
            switch (level) {
                case 0:
                    return tokens.word == Word.AND ? Formula.AND : tokens.word == Word.OR ? Formula.OR : NONE;
                case COMPARING:
                    return tokens.isSign('<') ? Formula.LESS : tokens.isSign('=') ? Formula.EQUAL : NONE;
                case 2:
                    return tokens.isSign('+') ? Formula.PLUS : tokens.isSign('-') ? Formula.MINUS : NONE;
                default:
                    return tokens.isSign('*') ? Formula.TIMES : NONE;
            }
        }

        private boolean readPart(int depth) {
            boolean isNumber = tokens.kind == Tokens.NUMBER;
            boolean isNot = tokens.word == Word.NOT;
            boolean isOpened = tokens.isSign('(');
            boolean isFact = tokens.word != null && isWithin(tokens.word.fact, firstFact, lastFact);
            if (!isNumber && !isNot && !isFact && !isOpened) {
                return wrong(CANT_STAND);
            }
            if (depth >= MOST_DEPTH) {
                return wrong(TOO_MANY);
            }
            if (isNumber) {
                addStep(Formula.PUT_NUMBER, tokens.number);
            } else if (isFact) {
                addStep(Formula.PUT_FACT, tokens.word.fact);
            }
            tokens.next();
            if (isNot && !readPart(depth + 1) || isOpened && !readLevel(0, depth + 1)) {
                return false;
            }
            if (isNot) {
                addStep(Formula.NOT, 0);
            }
            if (isOpened && !tokens.isSign(')')) {
                return wrong(CANT_STAND);
            }
            if (isOpened) {
                tokens.next();
            }
            return true;
        }

        private void addStep(int what, int of) {
            if (stepCount < steps.length) {
                steps[stepCount] = Formula.stepOf(what, of);
                stepCount++;
            }
        }
    }

    /** A door's lock. Frost moves ice and water within it, so both together are the same, salted or not. */
    private static final class Lock {
        int ice;
        int water;
        int salt;
        int bareIce;
        int menBeside;

        void begin(int thick) {
            ice = thick;
            water = 0;
            salt = 0;
            bareIce = thick;
            menBeside = NONE;
        }

        void copyFrom(Lock other) {
            ice = other.ice;
            water = other.water;
            salt = other.salt;
            bareIce = other.bareIce;
            menBeside = other.menBeside;
        }

        int held() {
            return ice + water;
        }

        boolean isLoose() {
            return ice == 0;
        }

        int saltBehind(int hours) {
            return Math.max(0, salt - hours);
        }

        int takeWater(int much) {
            int taken = Math.min(much, FULL_LOCK - held());
            water += taken;
            return taken;
        }
    }

    /** A prison as it is in an hour. */
    private static final class Night {
        private static final int DEGREES_UNTOLD = -10;
        private static final int MOST_DEGREES = 40;
        private static final int MOST_FROST = 20;
        private static final int HOURS_OF_DAY = 24;
        private static final int SALT_THAWS = 3;

        Law law;
        int hour;
        int barred;
        final int[] stoves = new int[MOST_CELLS];
        final int[] manCell = new int[MOST_MEN];
        final int[] manSalt = new int[MOST_MEN];
        final Lock[] locks = new Lock[MOST_DOORS];
        private final int[] facts = new int[FACTS];

        Night(Law law) {
            for (int door = 0; door < MOST_DOORS; door++) {
                locks[door] = new Lock();
            }
            this.law = law;
            barred = NONE;
        }

        void begin(Law told) {
            law = told;
            hour = 0;
            System.arraycopy(told.stoves, 0, stoves, 0, MOST_CELLS);
            System.arraycopy(told.manCell, 0, manCell, 0, MOST_MEN);
            System.arraycopy(told.manSalt, 0, manSalt, 0, MOST_MEN);
            for (int door = 0; door < MOST_DOORS; door++) {
                locks[door].begin(told.thick[door]);
            }
        }

        void copyFrom(Night other) {
            law = other.law;
            hour = other.hour;
            barred = NONE;
            System.arraycopy(other.stoves, 0, stoves, 0, MOST_CELLS);
            System.arraycopy(other.manCell, 0, manCell, 0, MOST_MEN);
            System.arraycopy(other.manSalt, 0, manSalt, 0, MOST_MEN);
            for (int door = 0; door < MOST_DOORS; door++) {
                locks[door].copyFrom(other.locks[door]);
            }
        }

        int menIn(int cell, int other) {
            int bits = 0;
            for (int man = 0; man < law.men; man++) {
                boolean there = manCell[man] == cell || manCell[man] == other;
                if (there && manCell[man] != OUTSIDE) {
                    bits |= 1 << man;
                }
            }
            return bits;
        }

        int menHeld() {
            int held = 0;
            for (int man = 0; man < law.men; man++) {
                held += manCell[man] != OUTSIDE ? 1 : 0;
            }
            return held;
        }

        int guardsIn(int place) {
            int there = 0;
            for (int guard = 0; guard < law.guards; guard++) {
                there += law.guardCell(guard, hour) == place ? 1 : 0;
            }
            return there;
        }

        boolean someLoose() {
            for (int door = 0; door < law.doors; door++) {
                if (locks[door].isLoose()) {
                    return true;
                }
            }
            return false;
        }

        int degreesBehind(int hours, int mild) {
            if (law.weather == null) {
                return DEGREES_UNTOLD;
            }
            facts[HOUR] = (hour + hours) % HOURS_OF_DAY;
            facts[DAY] = (hour + hours) / HOURS_OF_DAY;
            facts[MILD] = mild;
            return atMost(MOST_DEGREES, law.weather.valueBy(facts));
        }

        void laySalt(int man, int door) {
            Lock lock = locks[door];
            manSalt[man]--;
            lock.salt++;
            if (lock.menBeside == NONE) {
                lock.menBeside = menIn(law.doorCell[door], law.doorOther[door]);
            }
        }

        void passHour(int mild) {
            int degrees = degreesBehind(0, mild);
            for (int door = 0; door < law.doors; door++) {
                setAround(degrees, stoveAt(door), breathAt(door));
                freeze(locks[door]);
            }
            for (int man = 0; man < law.men; man++) {
                letGo(man);
            }
            hour++;
        }

        int stoveAt(int door) {
            int other = law.doorOther[door];
            return stoves[law.doorCell[door]] + (other == OUTSIDE ? 0 : stoves[other]);
        }

        int breathAt(int door) {
            int cell = law.doorCell[door];
            int other = law.doorOther[door];
            // No guard is outside, so outside counts none.
            return Integer.bitCount(menIn(cell, other)) + guardsIn(cell) + guardsIn(other);
        }

        /** Sets the facts about a door that its lock has no part in. */
        void setAround(int degrees, int stove, int breath) {
            facts[DEGREES] = degrees;
            facts[STOVE] = stove;
            facts[BREATH] = breath;
        }

        int iceBehind(int salt, int ice, int water) {
            int frost;
            if (law.ice == null) {
                frost = -facts[DEGREES] - facts[STOVE] - salt * SALT_THAWS - facts[BREATH];
            } else {
                facts[SALT] = salt;
                facts[ICE] = ice;
                facts[WATER] = water;
                frost = law.ice.valueBy(facts);
            }
            frost = atMost(MOST_FROST, frost);
            return frost >= 0 ? ice + Math.min(frost, water) : ice - Math.min(-frost, ice);
        }

        private void freeze(Lock lock) {
            int held = lock.held();
            boolean untouched = lock.salt == 0 && lock.bareIce == lock.ice;
            int ice = iceBehind(lock.salt, lock.ice, lock.water);
            // The law may be dear, and where salt never mattered it says the same again.
            lock.bareIce = untouched ? ice : iceBehind(0, lock.bareIce, held - lock.bareIce);
            lock.ice = ice;
            lock.water = held - ice;
            lock.salt = lock.saltBehind(1);
        }

        private void letGo(int man) {
            int cell = manCell[man];
            if (cell == OUTSIDE || hour / HOURS_OF_DAY < law.manDay[man] || guardsIn(cell) > 0) {
                return;
            }
            int goal = cell;
            for (int door = 0; door < law.doors; door++) {
                int place = law.across(door, cell);
                boolean open = place != NOWHERE && door != barred && locks[door].isLoose();
                if (open && isNearer(place, goal) && guardsIn(place) == 0) {
                    goal = place;
                }
            }
            manCell[man] = goal;
        }

        private boolean isNearer(int place, int than) {
            int far = law.farOf(place);
            return far != NONE && far < law.farOf(than);
        }

        private static int atMost(int most, int value) {
            return Math.max(-most, Math.min(most, value));
        }
    }

    /** Numbers drawn by a seed. */
    private static final class Draws {
        private static final long FACTOR = 1103515245L;
        private static final long MORE = 12345L;
        private static final long MODULUS = 2147483648L;
        private static final long CUT = 65536L;

        private long state;

        Draws(int seed) {
            state = seed;
        }

        int drawBelow(int most) {
            state = (state * FACTOR + MORE) % MODULUS;
            return most > 0 ? (int) (state / CUT % most) : 0;
        }
    }
}
