import java.util.Arrays;

/** Adding machines that go on totting at night, loosely. What each call promises stands in the document. */
public final class MachinesDream {
    public static final int NONE = -1;

    private static final int NO_SUCH = -2;
    private static final int TEN = 10;
    private static final int HIGHEST = 9999;
    private static final int MACHINES = 5;
    private static final int MOST_BRASS = 9;
    private static final int MOST_WEAR = 99;
    private static final int MOST_OIL = 9;
    private static final int MOST_WORD = 110;
    private static final int TWO_DIGITS = 11;
    private static final int ROLL_DIGITS = 12;
    private static final int STRIP_DIGITS = 12;
    private static final int NUMBER_DIGITS = 4;
    private static final int STEPS = 30;
    private static final int BOOK_ROWS = 30;
    private static final int BOOK_COLUMNS = 4;
    private static final int FIRST_X = 193;
    private static final int MOST_NIGHTS = 60;
    private static final int MOST_DECADES = 40;
    private static final int MOST_GROWTH = 12;
    private static final int STAYS_WITHIN = 9;
    private static final int TEXTS = 4;
    private static final int TAPE_BYTES = 300;
    private static final int CLAUSES = 24;
    private static final int CLAUSE_COLUMNS = 3;
    private static final int DAYS = 8;
    private static final int READINGS = 8;
    private static final int MOST_RANK = 9;
    private static final int STOCK_NIGHTS = 8;
    private static final int MOST_NEED = 99;
    private static final int MOST_ONCE = 999;
    private static final int MOST_KEPT = 99;

    private static final int[] POWERS = {1, 10, 100, 1000};

    /** Stands in the order of the word kinds below, each word closed by a blank. */
    private static final String WORDS = "loose believes wears machine strict slack crank lift oil night brass wear sum who long same to by digits sums if then else end or and not ";
    /** Stands in the order of the kinds from LESS to SEMICOLON. */
    private static final String SYMBOLS = "<>=#+-*/();";

    // The three laws come first, then all other words that begin a clause, up to NIGHT.
    private static final int LOOSE = 0;
    private static final int BELIEVES = 1;
    private static final int WEARS = 2;
    private static final int LAWS = 3;
    private static final int MACHINE = 3;
    private static final int STRICT = 4;
    private static final int SLACK = 5;
    private static final int CRANK = 6;
    private static final int LIFT = 7;
    // From OIL to SAME stand the names that a law may ask for.
    private static final int OIL = 8;
    private static final int NIGHT = 9;
    private static final int BRASS = 10;
    private static final int WEAR = 11;
    private static final int SUM = 12;
    private static final int WHO = 13;
    private static final int LONG = 14;
    private static final int SAME = 15;
    private static final int TO = 16;
    private static final int BY = 17;
    private static final int DIGITS = 18;
    private static final int SUMS = 19;
    private static final int IF = 20;
    private static final int THEN = 21;
    private static final int ELSE = 22;
    private static final int END = 23;
    private static final int OR = 24;
    private static final int AND = 25;
    private static final int NOT = 26;
    private static final int NUMBER = 27;
    private static final int LESS = 28;
    private static final int MORE = 29;
    private static final int EQUAL = 30;
    private static final int UNLIKE = 31;
    private static final int PLUS = 32;
    private static final int MINUS = 33;
    private static final int TIMES = 34;
    private static final int OVER = 35;
    private static final int LEFT = 36;
    private static final int RIGHT = 37;
    private static final int SEMICOLON = 38;
    private static final int AT_MOST = 39;
    private static final int AT_LEAST = 40;
    private static final int STOP = 41;
    private static final int STRANGE = 42;
    /** No token: the minus of one, as an order of a compiled law. */
    private static final int NEGATE = 43;

    private static final int MISPLACED = 1;
    private static final int NOT_TOLD = 2;
    private static final int TOO_DEEP = 3;
    private static final int SECOND_TIME = 4;
    private static final int FOREIGN_NAME = 5;
    private static final int TOO_MANY = 6;

    private static final int MOST_OPEN = 8;
    private static final int LARGEST = 1000000;

    private final State now = new State();
    private final State imaged = new State();
    private final Tape tape = new Tape();
    private final Reader reader = new Reader(tape);
    private final Laws laws = new Laws();
    private final Strips strips = new Strips();
    private final Pairs pairs = new Pairs();
    private final Stock cellar = new Stock();
    private final World dreamt = new World();

    public MachinesDream() {
    }

    public int machine(int brass, int wear) {
        if (!within(brass, 0, MOST_BRASS) || !within(wear, 0, MOST_WEAR)) {
            return NONE;
        }
        return now.world.install(brass, wear);
    }

    public boolean rule(int digit, boolean loose, int word) {
        if (!within(digit, 0, 9) || !within(word, 0, MOST_WORD)) {
            return false;
        }
        now.rules[ruleIndex(digit, loose)] = word;
        return true;
    }

    public int feed(int a, int b, int c, int d, int e) {
        if (tape.length > TAPE_BYTES - 20) {
            return NONE;
        }
        tape.append(a);
        tape.append(b);
        tape.append(c);
        tape.append(d);
        tape.append(e);
        return tape.length;
    }

    public int end(int n) {
        if (!within(n, 0, tape.length)) {
            return NONE;
        }
        tape.length = n;
        return n;
    }

    public int text() {
        if (now.textCount >= TEXTS) {
            return NONE;
        }
        boolean faultless = reader.read();
        tape.length = 0;
        if (!faultless) {
            return NONE;
        }
        now.texts[now.textCount] = reader.compiled();
        now.textCount++;
        return now.textCount - 1;
    }

    public int fault(int what) {
        if (what == 0) {
            return reader.fault;
        }
        return what == 1 ? reader.faultPlace : NONE;
    }

    public boolean by(int text) {
        if (!within(text, NONE, now.textCount - 1)) {
            return false;
        }
        now.ruling = text;
        return true;
    }

    public int crank(int machine, int number) {
        if (!within(number, 0, HIGHEST) || !now.world.canTurn(machine)) {
            return NONE;
        }
        now.remember();
        now.world.turn(machine, number);
        return now.world.sum[machine];
    }

    public boolean oil(int machine, int n) {
        if (!within(n, 0, MOST_OIL) || !now.world.has(machine)) {
            return false;
        }
        now.remember();
        now.world.oil[machine] = n;
        return true;
    }

    public boolean lift(int machine) {
        if (!now.world.hasRoll(machine)) {
            return false;
        }
        now.remember();
        now.world.rollSize[machine] = 0;
        return true;
    }

    public int night(int n) {
        if (!within(n, 1, MOST_NIGHTS) || n > HIGHEST - now.world.night) {
            return NONE;
        }
        return passNights(n);
    }

    public int played(int text) {
        if (!within(text, 0, now.textCount - 1) || now.texts[text] == null) {
            return NO_SUCH;
        }
        Text script = now.texts[text];
        for (int i = 0; i < script.clauseCount; i++) {
            if (!playClause(script, i)) {
                return i;
            }
        }
        return NONE;
    }

    public int decades(int seed, int n) {
        if (!within(seed, 0, HIGHEST) || !within(n, 1, MOST_DECADES)) {
            return NONE;
        }
        now.remember();
        now.world.x = seed * 2 + FIRST_X;
        for (int i = 0; i < n; i++) {
            int x = now.world.x;
            now.world.renewX();
            if (x % 5 == 4) {
                if (now.world.night < HIGHEST) {
                    laws.pass(now.world, now.rules, now.theText());
                }
            } else if (now.world.count > 0) {
                handle(x % now.world.count, x);
            }
        }
        return now.world.night;
    }

    public int undo() {
        return now.takeBack() ? now.pastSize : NONE;
    }

    public int of(int machine, int what) {
        World world = now.world;
        if (!world.has(machine)) {
            return NONE;
        }
        switch (what) {
            case 0: return world.brass[machine];
            case 1: return world.wear[machine];
            case 2: return world.oil[machine];
            case 3: return world.sum[machine];
            case 4: return world.rollSize[machine];
            case 5: return laws.loose(now.theText(), world, machine);
            case 6: return laws.believes(now.theText(), world, machine);
            case 7: return laws.wears(now.theText(), world, machine);
            default: return what < 10 ? NONE : world.rollDigit(machine, what - 10);
        }
    }

    public int told(int digit, boolean loose) {
        return within(digit, 0, 9) ? now.rules[ruleIndex(digit, loose)] : NONE;
    }

    public int is(int what) {
        if (what == 0) {
            return now.world.night;
        }
        return what == 1 ? now.world.x : NO_SUCH;
    }

    public int book(int i, int what) {
        if (i == NONE) {
            return now.world.booked;
        }
        if (!within(i, 0, now.world.booked - 1) || !within(what, 0, BOOK_COLUMNS - 1)) {
            return NO_SUCH;
        }
        return now.world.book[i * BOOK_COLUMNS + what];
    }

    public int foretold(int n, int machine, int what) {
        if (!within(n, 1, MOST_NIGHTS) || !now.world.has(machine) || !within(what, 0, 2)) {
            return NONE;
        }
        dreamt.copyFrom(now.world);
        int passing = Math.min(n, HIGHEST - dreamt.night);
        for (int i = 0; i < passing; i++) {
            laws.pass(dreamt, now.rules, now.theText());
        }
        if (what == 0) {
            return dreamt.sum[machine];
        }
        return what == 1 ? dreamt.wear[machine] : dreamt.rollSize[machine];
    }

    public int put(int digit) {
        return lengthen(now.strip, digit);
    }

    public long may(int sum) {
        if (!within(sum, 0, HIGHEST)) {
            return NONE;
        }
        return strips.weigh(sum, now.strip, now.rules, 1, 1);
    }

    public long odds(int sum, int loose, boolean low) {
        if (!within(sum, 0, HIGHEST) || !within(loose, 0, TEN)) {
            return NONE;
        }
        int upper = strips.chance(sum, now.strip, now.rules, loose);
        int common = commonDivisor(upper, Strips.WHOLE);
        return (low ? Strips.WHOLE : upper) / common;
    }

    public int day(int sum) {
        if (sum == NONE) {
            now.days.size = 0;
            return 0;
        }
        if (!within(sum, 0, HIGHEST) || !now.days.append(sum)) {
            return NO_SUCH;
        }
        return now.days.size;
    }

    public int fits() {
        int set = 0;
        for (int i = 0; i < now.days.size; i++) {
            if (strips.weigh(now.days.get(i), now.strip, now.rules, 1, 1) > 0) {
                set |= 1 << i;
            }
        }
        return set;
    }

    public int likeliest(int loose) {
        if (!within(loose, 0, TEN)) {
            return NONE;
        }
        int best = NONE;
        int most = 0;
        for (int i = 0; i < now.days.size; i++) {
            int chance = strips.chance(now.days.get(i), now.strip, now.rules, loose);
            if (chance > most) {
                most = chance;
                best = i;
            }
        }
        return best;
    }

    public int add(int i) {
        strips.fewest(now.strip, now.rules);
        if (i == NONE) {
            return strips.found.size > 0 ? strips.found.size : NO_SUCH;
        }
        return strips.found.has(i) ? strips.found.get(i) : NO_SUCH;
    }

    public int second(int digit) {
        return lengthen(now.other, digit);
    }

    public int duet(int a, int b) {
        if (!within(a, 0, HIGHEST) || !within(b, 0, HIGHEST)) {
            return NONE;
        }
        return strips.woven(a, b, now.strip);
    }

    public int common(int i) {
        strips.longestInBoth(now.strip, now.other);
        if (i == NONE) {
            return strips.found.size;
        }
        return strips.found.has(i) ? strips.found.get(i) : NO_SUCH;
    }

    public int apart() {
        return strips.distance(now.strip, now.other);
    }

    public int grows(int sum, int n) {
        if (!within(sum, 0, HIGHEST) || !within(n, 0, MOST_GROWTH)) {
            return NONE;
        }
        return strips.grown(sum, n, now.rules);
    }

    public int stays(boolean loose) {
        int set = 0;
        for (int digit = 0; digit < TEN; digit++) {
            if (comesBack(digit, loose)) {
                set |= 1 << digit;
            }
        }
        return set;
    }

    public boolean likes(boolean clerk, int who, int whom, int rank) {
        if (!within(who, 0, MACHINES - 1) || !within(whom, 0, MACHINES - 1) || !within(rank, 0, MOST_RANK)) {
            return false;
        }
        int[] ranks = clerk ? now.clerkRanks : now.machineRanks;
        ranks[who * MACHINES + whom] = rank;
        return true;
    }

    public int paired(int clerk) {
        if (!within(clerk, 0, MACHINES - 1)) {
            return NONE;
        }
        pairs.pairAll(now.clerkRanks, now.machineRanks);
        return pairs.machineOf[clerk];
    }

    public int blocks(int clerk, int machine) {
        if (!within(clerk, 0, MACHINES - 1) || !within(machine, 0, MACHINES - 1)) {
            return NONE;
        }
        boolean both = Pairs.prefers(now.clerkRanks, clerk, machine, clerk)
                && Pairs.prefers(now.machineRanks, machine, clerk, machine);
        return both ? 1 : 0;
    }

    public boolean needs(int night, int oil) {
        if (!within(night, 0, STOCK_NIGHTS - 1) || !within(oil, 0, MOST_NEED)) {
            return false;
        }
        now.needed[night] = oil;
        return true;
    }

    public int stock(int once, int kept, int i) {
        if (!within(once, 0, MOST_ONCE) || !within(kept, 0, MOST_KEPT) || !within(i, NONE, STOCK_NIGHTS - 1)) {
            return NONE;
        }
        cellar.plan(now.needed, once, kept);
        return i == NONE ? cellar.least[0] : cellar.bought[i];
    }

    public int looser(int machine, int loose) {
        if (machine == NONE) {
            now.readMachines.size = 0;
            now.readLoose.size = 0;
            return 0;
        }
        if (!now.world.has(machine) || !within(loose, 0, TEN) || !now.readMachines.append(machine)) {
            return NO_SUCH;
        }
        now.readLoose.append(loose);
        return now.readMachines.size;
    }

    public int whose() {
        int set = 0;
        for (int t = 0; t < now.textCount; t++) {
            if (agrees(now.texts[t])) {
                set |= 1 << t;
            }
        }
        return set;
    }

    public int forgiven(int limit) {
        if (!within(limit, 0, HIGHEST)) {
            return NONE;
        }
        int best = 0;
        int bestSum = 0;
        for (int set = 1; set < 1 << now.world.count; set++) {
            int sum = now.world.sumOf(set);
            int more = Integer.bitCount(set) - Integer.bitCount(best);
            if (sum <= limit && (more > 0 || more == 0 && sum < bestSum)) {
                best = set;
                bestSum = sum;
            }
        }
        return best;
    }

    public int snow() {
        int zeros = 0;
        for (int m = 0; m < now.world.count; m++) {
            int size = digitCount(now.world.sum[m]);
            for (int k = 0; k < size; k++) {
                if (digitAt(now.world.sum[m], k) == 0) {
                    zeros++;
                }
            }
        }
        return zeros;
    }

    public int worn() {
        int most = NONE;
        for (int m = 0; m < now.world.count; m++) {
            if (most == NONE || now.world.wear[m] > now.world.wear[most]) {
                most = m;
            }
        }
        return most;
    }

    public int blank() {
        int set = 0;
        for (int m = 0; m < now.world.count; m++) {
            if (!now.world.hasRoll(m)) {
                set |= 1 << m;
            }
        }
        return set;
    }

    public int ledger(int machine) {
        if (machine == NONE) {
            return now.world.booked;
        }
        return now.world.has(machine) ? now.world.bookedOf(machine) : NO_SUCH;
    }

    public int image() {
        imaged.copyFrom(now);
        return now.world.night;
    }

    public int back() {
        now.copyFrom(imaged);
        return now.world.night;
    }

    public int about(int what) {
        switch (what) {
            case 0: return now.world.count;
            case 1: return now.textCount;
            case 2: return now.ruling;
            case 3: return now.pastSize;
            case 4: return now.strip.size;
            case 5: return now.other.size;
            case 6: return now.days.size;
            case 7: return now.readMachines.size;
            case 8: return tape.length;
            default: return NO_SUCH;
        }
    }

    /** Those that can pass; each is a step. */
    private int passNights(int n) {
        int believed = 0;
        int passing = Math.min(n, HIGHEST - now.world.night);
        for (int i = 0; i < passing; i++) {
            now.remember();
            believed += laws.pass(now.world, now.rules, now.theText());
        }
        return believed;
    }

    /** Whether the clause could be done whole. */
    private boolean playClause(Text script, int i) {
        int a = script.clausePart(i, 1);
        int b = script.clausePart(i, 2);
        int before = now.world.night;
        switch (script.clausePart(i, 0)) {
            case MACHINE: return machine(a, b) != NONE;
            case STRICT: return rule(a, false, b);
            case SLACK: return rule(a, true, b);
            case CRANK: return crank(b, a) != NONE;
            case OIL: return oil(a, b);
            case LIFT: return lift(a);
            case NIGHT:
                passNights(a);
                return now.world.night - before == a;
            default: return true;
        }
    }

    /** One draw of decades that isn't a night, done to a machine that is there. */
    private void handle(int machine, int x) {
        World world = now.world;
        if (!world.has(machine)) {
            return;
        }
        int what = x % 5;
        if (what <= 1) {
            if (world.canTurn(machine)) {
                world.turn(machine, x % 997);
            }
        } else if (what == 2) {
            world.oil[machine] = x % 10;
        } else {
            world.rollSize[machine] = 0;
        }
    }

    private static int lengthen(Row row, int digit) {
        if (digit == NONE) {
            row.size = 0;
            return 0;
        }
        if (!within(digit, 0, 9) || !row.append(digit)) {
            return NO_SUCH;
        }
        return row.size;
    }

    private boolean comesBack(int digit, boolean loose) {
        int here = digit;
        for (int k = 0; k < STAYS_WITHIN; k++) {
            int word = now.rules[ruleIndex(here, loose)];
            if (!within(word, 1, TEN)) {
                return false;
            }
            here = word - 1;
            if (here == digit) {
                return true;
            }
        }
        return false;
    }

    private boolean agrees(Text text) {
        for (int i = 0; i < now.readMachines.size; i++) {
            int machine = now.readMachines.get(i);
            if (now.world.has(machine) && laws.loose(text, now.world, machine) != now.readLoose.get(i)) {
                return false;
            }
        }
        return true;
    }

    private static boolean within(int n, int least, int most) {
        return n >= least && n <= most;
    }

    private static int ruleIndex(int digit, boolean loose) {
        return digit * 2 + (loose ? 1 : 0);
    }

    /** Never 0, so that it may divide. */
    private static int commonDivisor(int a, int b) {
        int high = b;
        int low = a;
        for (int k = 0; k < 64 && low != 0; k++) {
            int rest = high % low;
            high = low;
            low = rest;
        }
        return high == 0 ? 1 : high;
    }

    /** Of a number 0 .. 9999; 0 has one digit. */
    private static int digitCount(int number) {
        int count = 1;
        for (int k = 1; k < POWERS.length; k++) {
            if (number >= POWERS[k]) {
                count = k + 1;
            }
        }
        return count;
    }

    /** The digit of a number 0 .. 9999 at a place, counted from the first on. */
    private static int digitAt(int number, int place) {
        int power = digitCount(number) - 1 - place;
        return within(power, 0, POWERS.length - 1) ? number / POWERS[power] % 10 : 0;
    }

    /** A row of numbers that grows up to a bound. */
    private static final class Row {
        final int[] items;
        int size;

        Row(int most) {
            items = new int[Math.max(most, 0)];
        }

        boolean has(int i) {
            return i >= 0 && i < size && i < items.length;
        }

        /** 0 where there is none. */
        int get(int i) {
            return has(i) ? items[i] : 0;
        }

        boolean append(int item) {
            if (!within(size, 0, items.length - 1)) {
                return false;
            }
            items[size] = item;
            size++;
            return true;
        }

        void copyFrom(Row row) {
            System.arraycopy(row.items, 0, items, 0, Math.min(items.length, row.items.length));
            size = Math.min(row.size, items.length);
        }
    }

    /** All that a step changes: the machines, NIGHT, X and BOOK. */
    private static final class World {
        int count;
        int night;
        int x = FIRST_X;
        int booked;
        final int[] brass = new int[MACHINES];
        final int[] toldWear = new int[MACHINES];
        final int[] wear = new int[MACHINES];
        final int[] oil = new int[MACHINES];
        final int[] sum = new int[MACHINES];
        final int[] rollSize = new int[MACHINES];
        final int[] rolls = new int[MACHINES * ROLL_DIGITS];
        final int[] book = new int[BOOK_ROWS * BOOK_COLUMNS];

        boolean has(int machine) {
            return machine >= 0 && machine < count && machine < MACHINES;
        }

        int install(int brassTold, int wearTold) {
            if (!within(count, 0, MACHINES - 1)) {
                return NONE;
            }
            brass[count] = brassTold;
            toldWear[count] = wearTold;
            setAsTold(count);
            count++;
            return count - 1;
        }

        private void setAsTold(int machine) {
            wear[machine] = toldWear[machine];
            oil[machine] = 0;
            sum[machine] = 0;
            rollSize[machine] = 0;
        }

        boolean canTurn(int machine) {
            return has(machine) && wear[machine] < MOST_WEAR;
        }

        /** Only of a machine that can be turned. */
        void turn(int machine, int number) {
            sum[machine] = (sum[machine] + number) % (HIGHEST + 1);
            wear[machine]++;
        }

        boolean hasRoll(int machine) {
            return has(machine) && rollSize[machine] > 0;
        }

        int rollDigit(int machine, int i) {
            if (!has(machine) || !within(i, 0, rollSize[machine] - 1) || i >= ROLL_DIGITS) {
                return NONE;
            }
            return rolls[machine * ROLL_DIGITS + i];
        }

        void printWord(int machine, int word) {
            if (word >= TWO_DIGITS) {
                printDigit(machine, (word - TWO_DIGITS) / 10);
                printDigit(machine, (word - TWO_DIGITS) % 10);
            } else if (word > 0) {
                printDigit(machine, word - 1);
            }
        }

        private void printDigit(int machine, int digit) {
            int size = rollSize[machine];
            if (within(size, 0, ROLL_DIGITS - 1)) {
                rolls[machine * ROLL_DIGITS + size] = digit;
                rollSize[machine] = size + 1;
            }
        }

        private int rollNumber(int machine) {
            int number = 0;
            for (int i = Math.max(0, rollSize[machine] - NUMBER_DIGITS); i < rollSize[machine]; i++) {
                number = number * 10 + rollDigit(machine, i);
            }
            return number;
        }

        void renewX() {
            x = (x * 433 + 313) % 30557;
        }

        int draw() {
            int drawn = x % TEN;
            renewX();
            return drawn;
        }

        void believe(int machine) {
            int then = rollNumber(machine);
            if (booked >= BOOK_ROWS) {
                System.arraycopy(book, BOOK_COLUMNS, book, 0, (BOOK_ROWS - 1) * BOOK_COLUMNS);
                booked = BOOK_ROWS - 1;
            }
            int at = booked * BOOK_COLUMNS;
            book[at] = night;
            book[at + 1] = machine;
            book[at + 2] = sum[machine];
            book[at + 3] = then;
            booked++;
            sum[machine] = then;
        }

        int bookedOf(int machine) {
            int found = 0;
            for (int i = 0; i < booked; i++) {
                if (book[i * BOOK_COLUMNS + 1] == machine) {
                    found++;
                }
            }
            return found;
        }

        int sumOf(int set) {
            int all = 0;
            for (int m = 0; m < count; m++) {
                if ((set >> m & 1) == 1) {
                    all += sum[m];
                }
            }
            return all;
        }

        void copyFrom(World world) {
            count = world.count;
            System.arraycopy(world.brass, 0, brass, 0, MACHINES);
            System.arraycopy(world.toldWear, 0, toldWear, 0, MACHINES);
            copyChanging(world);
        }

        /** Which machines are told is no step: those told since stay, as told. */
        void goBackTo(World world) {
            copyChanging(world);
            for (int m = world.count; m < count; m++) {
                setAsTold(m);
            }
        }

        private void copyChanging(World world) {
            night = world.night;
            x = world.x;
            booked = world.booked;
            System.arraycopy(world.wear, 0, wear, 0, MACHINES);
            System.arraycopy(world.oil, 0, oil, 0, MACHINES);
            System.arraycopy(world.sum, 0, sum, 0, MACHINES);
            System.arraycopy(world.rollSize, 0, rollSize, 0, MACHINES);
            System.arraycopy(world.rolls, 0, rolls, 0, rolls.length);
            System.arraycopy(world.book, 0, book, 0, book.length);
        }
    }

    /** All that an image keeps. */
    private static final class State {
        final World world = new World();
        final World[] past = new World[STEPS];
        int pastFirst;
        int pastSize;
        final Text[] texts = new Text[TEXTS];
        int textCount;
        int ruling = NONE;
        final int[] rules = new int[2 * TEN];
        final Row strip = new Row(STRIP_DIGITS);
        final Row other = new Row(STRIP_DIGITS);
        final Row days = new Row(DAYS);
        final Row readMachines = new Row(READINGS);
        final Row readLoose = new Row(READINGS);
        final int[] clerkRanks = new int[MACHINES * MACHINES];
        final int[] machineRanks = new int[MACHINES * MACHINES];
        final int[] needed = new int[STOCK_NIGHTS];

        State() {
            for (int i = 0; i < STEPS; i++) {
                past[i] = new World();
            }
            for (int digit = 0; digit < TEN; digit++) {
                rules[digit * 2] = digit + 1;
                rules[digit * 2 + 1] = TWO_DIGITS + digit * 10 + digit;
            }
        }

        Text theText() {
            return ruling >= 0 && ruling < textCount && ruling < TEXTS ? texts[ruling] : null;
        }

        /** To be called ahead of each step. */
        void remember() {
            past[(pastFirst + pastSize) % STEPS].copyFrom(world);
            if (pastSize < STEPS) {
                pastSize++;
            } else {
                pastFirst = (pastFirst + 1) % STEPS;
            }
        }

        boolean takeBack() {
            if (pastSize <= 0) {
                return false;
            }
            pastSize--;
            world.goBackTo(past[(pastFirst + pastSize) % STEPS]);
            return true;
        }

        void copyFrom(State state) {
            world.copyFrom(state.world);
            for (int i = 0; i < STEPS; i++) {
                past[i].copyFrom(state.past[i]);
            }
            pastFirst = state.pastFirst;
            pastSize = state.pastSize;
            for (int i = 0; i < TEXTS; i++) {
                texts[i] = state.texts[i];
            }
            textCount = state.textCount;
            ruling = state.ruling;
            System.arraycopy(state.rules, 0, rules, 0, rules.length);
            strip.copyFrom(state.strip);
            other.copyFrom(state.other);
            days.copyFrom(state.days);
            readMachines.copyFrom(state.readMachines);
            readLoose.copyFrom(state.readLoose);
            System.arraycopy(state.clerkRanks, 0, clerkRanks, 0, clerkRanks.length);
            System.arraycopy(state.machineRanks, 0, machineRanks, 0, machineRanks.length);
            System.arraycopy(state.needed, 0, needed, 0, needed.length);
        }
    }

    /** A text that was read without a fault; it never changes, so an image may share it. */
    private static final class Text {
        final int[] orders;
        final int[] operands;
        final int[] lawFrom;
        final int[] lawTo;
        final int[] clauses;
        final int clauseCount;

        Text(int[] orders, int[] operands, int[] lawFrom, int[] lawTo, int[] clauses, int clauseCount) {
            this.orders = orders;
            this.operands = operands;
            this.lawFrom = lawFrom;
            this.lawTo = lawTo;
            this.clauses = clauses;
            this.clauseCount = clauseCount;
        }

        boolean hasLaw(int law) {
            return law >= 0 && law < lawFrom.length && lawFrom[law] >= 0;
        }

        int clausePart(int clause, int part) {
            int at = clause * CLAUSE_COLUMNS + part;
            return at >= 0 && at < clauses.length ? clauses[at] : NONE;
        }
    }

    /** The bytes that were fed, and the token that is come to. */
    private static final class Tape {
        final int[] bytes = new int[TAPE_BYTES];
        int length;
        int kind;
        int value;
        int place;
        int next;

        /** Four bytes, the highest first. */
        void append(int four) {
            for (int shift = 24; shift >= 0; shift -= 8) {
                if (within(length, 0, TAPE_BYTES - 1)) {
                    bytes[length] = four >>> shift & 255;
                    length++;
                }
            }
        }

        void rewind() {
            next = 0;
            advance();
        }

        void advance() {
            place = next;
            while (place < length && (byteAt(place) == 32 || byteAt(place) == 10)) {
                place++;
            }
            next = place + 1;
            int first = byteAt(place);
            if (place >= length) {
                next = length;
                kind = STOP;
            } else if (isLetter(first)) {
                scanWord();
            } else if (isDigit(first)) {
                scanNumber();
            } else {
                scanSymbol((char) first);
            }
        }

        private void scanWord() {
            while (next < length && isLetter(byteAt(next))) {
                next++;
            }
            kind = STRANGE;
            int word = 0;
            int at = place;
            for (int i = 0; i < WORDS.length(); i++) {
                char sign = WORDS.charAt(i);
                if (sign != ' ') {
                    at = at >= 0 && at < next && byteAt(at) == sign ? at + 1 : NONE;
                    continue;
                }
                if (at == next) {
                    kind = word;
                    return;
                }
                word++;
                at = place;
            }
        }

        private void scanNumber() {
            kind = NUMBER;
            value = byteAt(place) - '0';
            while (next < length && isDigit(byteAt(next))) {
                // Held just above the highest number, so that no row of digits wraps around.
                value = Math.min(value * 10 + byteAt(next) - '0', HIGHEST + 1);
                next++;
            }
        }

        private void scanSymbol(char first) {
            int index = SYMBOLS.indexOf(first);
            kind = index < 0 ? STRANGE : LESS + index;
            if ((kind == LESS || kind == MORE) && next < length && byteAt(next) == '=') {
                kind = kind == LESS ? AT_MOST : AT_LEAST;
                next++;
            }
        }

        private int byteAt(int i) {
            return i >= 0 && i < length && i < TAPE_BYTES ? bytes[i] : NONE;
        }

        private static boolean isLetter(int sign) {
            return sign >= 'a' && sign <= 'z' || sign >= 'A' && sign <= 'Z';
        }

        private static boolean isDigit(int sign) {
            return sign >= '0' && sign <= '9';
        }
    }

    /** Reads the tape as a text. Each token makes one order at most, so the rows for them can't run over. */
    private static final class Reader {
        private final Tape tape;
        int fault = NONE;
        int faultPlace = NONE;
        private int law;
        private int open;
        private int orderCount;
        private int clauseCount;
        private final int[] orders = new int[TAPE_BYTES];
        private final int[] operands = new int[TAPE_BYTES];
        private final int[] lawFrom = new int[LAWS];
        private final int[] lawTo = new int[LAWS];
        private final int[] clauses = new int[CLAUSES * CLAUSE_COLUMNS];

        Reader(Tape tape) {
            this.tape = tape;
        }

        boolean read() {
            fault = 0;
            faultPlace = NONE;
            open = 0;
            orderCount = 0;
            clauseCount = 0;
            Arrays.fill(lawFrom, NONE);
            Arrays.fill(lawTo, NONE);
            tape.rewind();
            boolean fine = true;
            for (int i = 0; i < TAPE_BYTES && fine && tape.kind != STOP; i++) {
                fine = readClause();
            }
            return fine;
        }

        /** Only behind a reading without a fault. */
        Text compiled() {
            return new Text(Arrays.copyOf(orders, orderCount), Arrays.copyOf(operands, orderCount),
                    lawFrom.clone(), lawTo.clone(),
                    Arrays.copyOf(clauses, clauseCount * CLAUSE_COLUMNS), clauseCount);
        }

        private boolean refuse(int number) {
            fault = number;
            faultPlace = tape.place;
            return false;
        }

        private boolean expect(int kind) {
            if (tape.kind != kind) {
                return refuse(MISPLACED);
            }
            tape.advance();
            return true;
        }

        private boolean readClause() {
            int kind = tape.kind;
            if (kind > NIGHT) {
                return refuse(MISPLACED);
            }
            if (kind < LAWS && lawFrom[kind] >= 0) {
                return refuse(SECOND_TIME);
            }
            if (clauseCount >= CLAUSES) {
                return refuse(TOO_MANY);
            }
            tape.advance();
            clauses[clauseCount * CLAUSE_COLUMNS] = kind;
            boolean fine;
            if (kind < LAWS) {
                law = kind;
                lawFrom[kind] = orderCount;
                fine = readSum();
                lawTo[kind] = orderCount;
            } else {
                fine = readOrder(kind);
            }
            clauseCount++;
            return fine && expect(SEMICOLON);
        }

        private boolean readOrder(int kind) {
            switch (kind) {
                case MACHINE:
                    return readPart(1, 0, MOST_BRASS) && expect(WEAR) && readPart(2, 0, MOST_WEAR);
                case CRANK:
                    return readPart(1, 0, HIGHEST) && expect(BY) && readPart(2, 0, MACHINES - 1);
                case OIL:
                    return readPart(1, 0, MACHINES - 1) && expect(BY) && readPart(2, 0, MOST_OIL);
                case LIFT:
                    return readPart(1, 0, MACHINES - 1);
                case NIGHT:
                    return readPart(1, 1, MOST_NIGHTS);
                default:
                    return readPart(1, 0, 9) && expect(TO) && readPart(2, 0, MOST_WORD);
            }
        }

        private boolean readPart(int part, int least, int most) {
            if (tape.kind != NUMBER) {
                return refuse(MISPLACED);
            }
            if (!within(tape.value, least, most)) {
                return refuse(NOT_TOLD);
            }
            clauses[clauseCount * CLAUSE_COLUMNS + part] = tape.value;
            tape.advance();
            return true;
        }

        private boolean readSum() {
            boolean fine = readProduct();
            for (int i = 0; i < TAPE_BYTES && fine && (tape.kind == PLUS || tape.kind == MINUS); i++) {
                int kind = tape.kind;
                tape.advance();
                fine = readProduct();
                order(kind, 0);
            }
            return fine;
        }

        private boolean readProduct() {
            boolean fine = readOne();
            for (int i = 0; i < TAPE_BYTES && fine && (tape.kind == TIMES || tape.kind == OVER); i++) {
                int kind = tape.kind;
                tape.advance();
                fine = readOne();
                order(kind, 0);
            }
            return fine;
        }

        private boolean readOne() {
            int kind = tape.kind;
            if (kind == NUMBER) {
                return readNumber();
            }
            if (within(kind, OIL, SAME)) {
                return readName(kind);
            }
            if (kind != LEFT && kind != MINUS && kind != DIGITS && kind != SUMS && kind != IF) {
                return refuse(MISPLACED);
            }
            if (open >= MOST_OPEN) {
                return refuse(TOO_DEEP);
            }
            open++;
            tape.advance();
            boolean fine = readOpened(kind);
            open--;
            return fine;
        }

        private boolean readNumber() {
            if (tape.value > HIGHEST) {
                return refuse(NOT_TOLD);
            }
            order(NUMBER, tape.value);
            tape.advance();
            return true;
        }

        private boolean readName(int kind) {
            if (kind == LONG && law == LOOSE || kind == SAME && law != BELIEVES) {
                return refuse(FOREIGN_NAME);
            }
            order(kind, 0);
            tape.advance();
            return true;
        }

        /** What follows the token that opens a ONE. */
        private boolean readOpened(int kind) {
            if (kind == LEFT) {
                return readSum() && expect(RIGHT);
            }
            if (kind == IF) {
                return readChoice();
            }
            boolean fine = readOne();
            order(kind == MINUS ? NEGATE : kind, 0);
            return fine;
        }

        private boolean readChoice() {
            if (!readEither() || !expect(THEN)) {
                return false;
            }
            int then = order(THEN, 0);
            if (!readSum() || !expect(ELSE)) {
                return false;
            }
            int otherwise = order(ELSE, 0);
            aim(then);
            if (!readSum() || !expect(END)) {
                return false;
            }
            aim(otherwise);
            return true;
        }

        private boolean readEither() {
            boolean fine = readBoth();
            for (int i = 0; i < TAPE_BYTES && fine && tape.kind == OR; i++) {
                tape.advance();
                fine = readBoth();
                order(OR, 0);
            }
            return fine;
        }

        private boolean readBoth() {
            boolean fine = readAsk();
            for (int i = 0; i < TAPE_BYTES && fine && tape.kind == AND; i++) {
                tape.advance();
                fine = readAsk();
                order(AND, 0);
            }
            return fine;
        }

        private boolean readAsk() {
            if (tape.kind != NOT) {
                return readComparison();
            }
            if (open >= MOST_OPEN) {
                return refuse(TOO_DEEP);
            }
            open++;
            tape.advance();
            boolean fine = readAsk();
            open--;
            order(NOT, 0);
            return fine;
        }

        private boolean readComparison() {
            if (!readSum()) {
                return false;
            }
            int kind = tape.kind;
            if (!within(kind, LESS, UNLIKE) && kind != AT_MOST && kind != AT_LEAST) {
                return refuse(MISPLACED);
            }
            tape.advance();
            boolean fine = readSum();
            order(kind, 0);
            return fine;
        }

        /** Its place among the orders. */
        private int order(int kind, int operand) {
            if (!within(orderCount, 0, TAPE_BYTES - 1)) {
                return NONE;
            }
            orders[orderCount] = kind;
            operands[orderCount] = operand;
            orderCount++;
            return orderCount - 1;
        }

        /** The order at a place leads to the one that comes next. */
        private void aim(int place) {
            if (within(place, 0, TAPE_BYTES - 1)) {
                operands[place] = orderCount;
            }
        }
    }

    /** What a text's laws ask for, and the nights that pass by them; a text that is null has no laws. */
    private static final class Laws {
        private final int[] stack = new int[TAPE_BYTES];
        private int height;

        int loose(Text text, World world, int machine) {
            int value = world.oil[machine] - world.brass[machine] / 3;
            if (text != null && text.hasLaw(LOOSE)) {
                value = asked(text, LOOSE, world, machine);
            }
            return Math.max(0, Math.min(TEN, value));
        }

        int believes(Text text, World world, int machine) {
            int value = 2;
            if (text != null && text.hasLaw(BELIEVES)) {
                value = asked(text, BELIEVES, world, machine);
            }
            return Math.max(0, Math.min(TEN, value));
        }

        int wears(Text text, World world, int machine) {
            int value = world.oil[machine] == 0 ? 1 : 0;
            if (text != null && text.hasLaw(WEARS)) {
                value = asked(text, WEARS, world, machine);
            }
            return Math.max(0, Math.min(9, value));
        }

        /** One night: how many rolls were believed. */
        int pass(World world, int[] rules, Text text) {
            int believed = 0;
            for (int m = 0; m < world.count && m < MACHINES; m++) {
                printRoll(world, m, rules, loose(text, world, m));
                if (world.draw() < believes(text, world, m)) {
                    world.believe(m);
                    believed++;
                }
                world.wear[m] = Math.min(MOST_WEAR, world.wear[m] + wears(text, world, m));
                world.oil[m] = Math.max(0, world.oil[m] - 1);
            }
            world.night++;
            return believed;
        }

        private static void printRoll(World world, int machine, int[] rules, int loose) {
            world.rollSize[machine] = 0;
            int sum = world.sum[machine];
            int size = digitCount(sum);
            for (int k = 0; k < size; k++) {
                int index = ruleIndex(digitAt(sum, k), world.draw() < loose);
                if (within(index, 0, rules.length - 1)) {
                    world.printWord(machine, rules[index]);
                }
            }
        }

        /** The orders of a choice lead onwards alone, so each is come to once at most. */
        private int asked(Text text, int law, World world, int machine) {
            height = 0;
            int to = Math.min(text.lawTo[law], text.orders.length);
            for (int at = Math.max(0, text.lawFrom[law]); at < to; at++) {
                int kind = text.orders[at];
                int operand = text.operands[at];
                if (kind == THEN) {
                    at = pop() == 0 ? Math.max(at, operand - 1) : at;
                } else if (kind == ELSE) {
                    at = Math.max(at, operand - 1);
                } else if (kind == NUMBER) {
                    push(operand);
                } else if (kind <= SAME) {
                    push(named(kind, world, machine));
                } else if (kind == DIGITS || kind == SUMS || kind == NOT || kind == NEGATE) {
                    push(ofOne(kind, pop(), world));
                } else {
                    int right = pop();
                    push(ofTwo(kind, pop(), right));
                }
            }
            return pop();
        }

        private void push(int value) {
            if (within(height, 0, stack.length - 1)) {
                stack[height] = value;
                height++;
            }
        }

        private int pop() {
            if (!within(height, 1, stack.length)) {
                return 0;
            }
            height--;
            return stack[height];
        }

        private static int named(int name, World world, int machine) {
            switch (name) {
                case NIGHT: return world.night;
                case BRASS: return world.brass[machine];
                case WEAR: return world.wear[machine];
                case OIL: return world.oil[machine];
                case SUM: return world.sum[machine];
                case WHO: return machine;
                case LONG: return world.rollSize[machine];
                case SAME: return world.rollSize[machine] == digitCount(world.sum[machine]) ? 1 : 0;
                default: return 0;
            }
        }

        private static int ofOne(int kind, int value, World world) {
            switch (kind) {
                case NEGATE: return -value;
                case NOT: return value == 0 ? 1 : 0;
                case SUMS: return world.has(value) ? world.sum[value] : 0;
                default: return crossSum(Math.abs(value));
            }
        }

        private static int crossSum(int size) {
            int all = 0;
            int rest = size;
            for (int k = 0; k < 10; k++) {
                all += rest % 10;
                rest /= 10;
            }
            return all;
        }

        private static int ofTwo(int kind, int left, int right) {
            switch (kind) {
                case PLUS: return held(left + right);
                case MINUS: return held(left - right);
                case TIMES: return held((long) left * right);
                case OVER: return right == 0 ? 0 : left / right;
                case LESS: return left < right ? 1 : 0;
                case MORE: return left > right ? 1 : 0;
                case EQUAL: return left == right ? 1 : 0;
                case UNLIKE: return left != right ? 1 : 0;
                case AT_MOST: return left <= right ? 1 : 0;
                case AT_LEAST: return left >= right ? 1 : 0;
                case AND: return left & right;
                case OR: return left | right;
                default: return 0;
            }
        }

        private static int held(long value) {
            if (value > LARGEST) {
                return LARGEST;
            }
            return value < -LARGEST ? -LARGEST : (int) value;
        }
    }

    /** What is asked of the strips; its rows are used again by each call. */
    private static final class Strips {
        static final int WHOLE = 10000;

        final Row found = new Row(STRIP_DIGITS);
        private final int[] here = new int[STRIP_DIGITS + 1];
        private final int[] there = new int[STRIP_DIGITS + 1];
        private final int[] leading = new int[STRIP_DIGITS + 1];
        private final int[][] table = new int[STRIP_DIGITS + 1][STRIP_DIGITS + 1];
        private final int[] many = new int[TEN];
        private final int[] manyThen = new int[TEN];

        /** All ways in which a number becomes the strip, each weighing the product of its digits' weights. */
        int weigh(int number, Row strip, int[] rules, int strict, int loose) {
            Arrays.fill(here, 0);
            here[0] = 1;
            int size = digitCount(number);
            for (int k = 0; k < size; k++) {
                int index = ruleIndex(digitAt(number, k), false);
                Arrays.fill(there, 0);
                for (int at = 0; at <= strip.size && at <= STRIP_DIGITS; at++) {
                    spread(at, behind(strip, at, rules[index]), strict);
                    spread(at, behind(strip, at, rules[index + 1]), loose);
                }
                System.arraycopy(there, 0, here, 0, here.length);
            }
            return within(strip.size, 0, STRIP_DIGITS) ? here[strip.size] : 0;
        }

        private void spread(int from, int to, int weight) {
            if (within(to, 0, STRIP_DIGITS)) {
                there[to] += here[from] * weight;
            }
        }

        /** Of 10000, however many digits the number has, so that chances of unlike numbers compare. */
        int chance(int number, Row strip, int[] rules, int loose) {
            int weight = weigh(number, strip, rules, TEN - loose, loose);
            for (int k = digitCount(number); k < NUMBER_DIGITS; k++) {
                weight *= TEN;
            }
            return weight;
        }

        /** The place behind a word that stands in the strip at a place; NONE if it doesn't stand there. */
        private static int behind(Row strip, int at, int word) {
            if (word <= 0) {
                return at;
            }
            if (word < TWO_DIGITS) {
                return strip.has(at) && strip.get(at) == word - 1 ? at + 1 : NONE;
            }
            boolean stands = strip.has(at + 1) && strip.get(at) * 10 + strip.get(at + 1) == word - TWO_DIGITS;
            return stands ? at + 2 : NONE;
        }

        /** WHAT TO ADD, found; nothing found: never. leading: by so many digits the places that lead to the end. */
        void fewest(Row strip, int[] rules) {
            found.size = 0;
            leading[0] = 1 << strip.size;
            int count = 0;
            for (int k = 1; k <= STRIP_DIGITS && count == 0; k++) {
                leading[k] = placesInto(leading[k - 1], strip, rules);
                if ((leading[k] & 1) == 1) {
                    count = k;
                }
            }
            int places = 1;
            for (int k = count - 1; k >= 0; k--) {
                int digit = 0;
                while (digit < 9 && (onward(places, digit, strip, rules) & leading[k]) == 0) {
                    digit++;
                }
                places = onward(places, digit, strip, rules) & leading[k];
                found.append(digit);
            }
        }

        private static int placesInto(int goal, Row strip, int[] rules) {
            int places = 0;
            for (int at = 0; at <= strip.size; at++) {
                for (int digit = 0; digit < TEN; digit++) {
                    if ((onwardFrom(at, digit, strip, rules) & goal) != 0) {
                        places |= 1 << at;
                    }
                }
            }
            return places;
        }

        private static int onward(int places, int digit, Row strip, int[] rules) {
            int then = 0;
            for (int at = 0; at <= strip.size; at++) {
                if ((places >> at & 1) == 1) {
                    then |= onwardFrom(at, digit, strip, rules);
                }
            }
            return then;
        }

        /** The places to which a digit's two words lead. */
        private static int onwardFrom(int at, int digit, Row strip, int[] rules) {
            int index = ruleIndex(digit, false);
            int strict = behind(strip, at, rules[index]);
            int loose = behind(strip, at, rules[index + 1]);
            return (strict < 0 ? 0 : 1 << strict) | (loose < 0 ? 0 : 1 << loose);
        }

        int woven(int a, int b, Row strip) {
            int longA = digitCount(a);
            int longB = digitCount(b);
            if (longA + longB != strip.size) {
                return 0;
            }
            for (int i = 0; i <= longA; i++) {
                for (int j = 0; j <= longB; j++) {
                    int ways = i == 0 && j == 0 ? 1 : 0;
                    int last = strip.get(i + j - 1);
                    if (i > 0 && digitAt(a, i - 1) == last) {
                        ways += table[i - 1][j];
                    }
                    if (j > 0 && digitAt(b, j - 1) == last) {
                        ways += table[i][j - 1];
                    }
                    table[i][j] = ways;
                }
            }
            return table[longA][longB];
        }

        /** COMMON, found. table: how long it is behind i digits of the one and j of the other. */
        void longestInBoth(Row one, Row other) {
            found.size = 0;
            for (int i = one.size; i >= 0; i--) {
                for (int j = other.size; j >= 0; j--) {
                    if (i == one.size || j == other.size) {
                        table[i][j] = 0;
                    } else if (one.get(i) == other.get(j)) {
                        table[i][j] = 1 + table[i + 1][j + 1];
                    } else {
                        table[i][j] = Math.max(table[i + 1][j], table[i][j + 1]);
                    }
                }
            }
            int i = 0;
            int j = 0;
            for (int rest = table[0][0]; rest > 0; rest--) {
                int digit = 0;
                while (digit < 9 && longBehind(digit, one, i, other, j) < rest - 1) {
                    digit++;
                }
                found.append(digit);
                i = next(one, i, digit) + 1;
                j = next(other, j, digit) + 1;
            }
        }

        /** How long a row in both can be behind the next such digit; NONE if one of them has none. */
        private int longBehind(int digit, Row one, int i, Row other, int j) {
            int inOne = next(one, i, digit);
            int inOther = next(other, j, digit);
            return inOne < 0 || inOther < 0 ? NONE : table[inOne + 1][inOther + 1];
        }

        private static int next(Row row, int from, int digit) {
            for (int at = from; at < row.size; at++) {
                if (row.get(at) == digit) {
                    return at;
                }
            }
            return NONE;
        }

        int distance(Row one, Row other) {
            for (int i = 0; i <= one.size; i++) {
                for (int j = 0; j <= other.size; j++) {
                    if (i == 0 || j == 0) {
                        table[i][j] = i + j;
                    } else {
                        int changed = table[i - 1][j - 1] + (one.get(i - 1) == other.get(j - 1) ? 0 : 1);
                        int moved = Math.min(table[i - 1][j], table[i][j - 1]) + 1;
                        table[i][j] = Math.min(changed, moved);
                    }
                }
            }
            return table[one.size][other.size];
        }

        int grown(int number, int nights, int[] rules) {
            Arrays.fill(many, 0);
            int size = digitCount(number);
            for (int k = 0; k < size; k++) {
                many[digitAt(number, k)]++;
            }
            for (int n = 0; n < nights; n++) {
                growOnce(rules);
            }
            int all = 0;
            for (int digit = 0; digit < TEN; digit++) {
                all += many[digit];
            }
            return Math.min(all, HIGHEST);
        }

        /** How many there are of each digit is enough to know how long the row becomes. */
        private void growOnce(int[] rules) {
            Arrays.fill(manyThen, 0);
            for (int digit = 0; digit < TEN; digit++) {
                int word = rules[ruleIndex(digit, false)];
                if (within(word, TWO_DIGITS, MOST_WORD)) {
                    manyThen[(word - TWO_DIGITS) / 10] += many[digit];
                    manyThen[(word - TWO_DIGITS) % 10] += many[digit];
                } else if (within(word, 1, TEN)) {
                    manyThen[word - 1] += many[digit];
                }
            }
            System.arraycopy(manyThen, 0, many, 0, TEN);
        }
    }

    /** Clerks who ask machines. */
    private static final class Pairs {
        final int[] machineOf = new int[MACHINES];
        private final int[] clerkOf = new int[MACHINES];
        private final int[] asked = new int[MACHINES];

        static boolean prefers(int[] ranks, int who, int one, int other) {
            int rankOfOne = ranks[who * MACHINES + one];
            int rankOfOther = ranks[who * MACHINES + other];
            return rankOfOne < rankOfOther || rankOfOne == rankOfOther && one < other;
        }

        void pairAll(int[] clerkRanks, int[] machineRanks) {
            Arrays.fill(machineOf, NONE);
            Arrays.fill(clerkOf, NONE);
            Arrays.fill(asked, 0);
            // No clerk asks a machine twice, so there are no more askings than pairs.
            for (int k = 0; k < MACHINES * MACHINES; k++) {
                int clerk = lowestFree();
                int machine = clerk < 0 ? NONE : bestUnasked(clerkRanks, clerk);
                if (machine < 0) {
                    return;
                }
                asked[clerk] |= 1 << machine;
                int holder = clerkOf[machine];
                if (holder < 0 || prefers(machineRanks, machine, clerk, holder)) {
                    if (holder >= 0) {
                        machineOf[holder] = NONE;
                    }
                    clerkOf[machine] = clerk;
                    machineOf[clerk] = machine;
                }
            }
        }

        private int lowestFree() {
            for (int clerk = 0; clerk < MACHINES; clerk++) {
                if (machineOf[clerk] < 0) {
                    return clerk;
                }
            }
            return NONE;
        }

        private int bestUnasked(int[] clerkRanks, int clerk) {
            int best = NONE;
            for (int machine = 0; machine < MACHINES; machine++) {
                boolean free = (asked[clerk] >> machine & 1) == 0;
                if (free && (best < 0 || prefers(clerkRanks, clerk, machine, best))) {
                    best = machine;
                }
            }
            return best;
        }
    }

    /** Oil that is bought for nights to come. */
    private static final class Stock {
        final int[] least = new int[STOCK_NIGHTS + 1];
        final int[] bought = new int[STOCK_NIGHTS];
        private final int[] until = new int[STOCK_NIGHTS];

        /**
         * From the last night back: what is bought for a night lasts until another. Of like costs the most is
         * bought; of like amounts the shortest run is kept, since behind it more may be bought the sooner.
         */
        void plan(int[] needed, int once, int kept) {
            least[STOCK_NIGHTS] = 0;
            for (int night = STOCK_NIGHTS - 1; night >= 0; night--) {
                int amount = 0;
                int keeping = 0;
                for (int last = night; last < STOCK_NIGHTS; last++) {
                    amount += needed[last];
                    keeping += needed[last] * (last - night) * kept;
                    int cost = (amount > 0 ? once : 0) + keeping + least[last + 1];
                    boolean better = last == night || cost < least[night];
                    if (better || cost == least[night] && amount > bought[night]) {
                        least[night] = cost;
                        bought[night] = amount;
                        until[night] = last + 1;
                    }
                }
            }
            for (int night = 0; night < STOCK_NIGHTS; night++) {
                for (int covered = night + 1; covered < until[night] && covered < STOCK_NIGHTS; covered++) {
                    bought[covered] = 0;
                    until[covered] = 0;
                }
            }
        }
    }
}
