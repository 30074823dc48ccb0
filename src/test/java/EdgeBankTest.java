/** The boundary cases of Terms I, of promises 1 to 3 and of 9 to 12: each sentence has a test of its own. */
public final class EdgeBankTest {
    private static final int LOW = Due.LOW;
    private static final int HIGH = Due.HIGH;
    private static final int[] OUT_OF_BANK = {-1, 2, 4, 5, LOW, HIGH};
    private static final Due due = new Due();

    public static void main(String[] args) {
        asAtFirst();
        theImageIsThis();
        brassRange();
        wearRange();
        atMostFiveMachines();
        ruleDigitRange();
        ruleWordRange();
        wordNumbers();
        strictAndLooseApart();
        crankNumberRange();
        crankMachineRange();
        crankBelowWear99();
        sumMod10000();
        crankLeavesTheRest();
        oilRange();
        oilMachineRange();
        oiledIsThat();
        liftNeedsARoll();
        liftOfARollWithoutDigits();
        liftMachineRange();
        nightRange();
        nightBeyond9999();
        nightRefusedDoesNothing();
        howManyBelieved();
        machinesByNumber();
        asAllIsThen();
        rollAnew();
        zeroIsOneZero();
        drawsByX();
        drawBelowLoose();
        rollOfEightAtMost();
        drawBelowBelieves();
        numberOfTheRoll();
        rollWithoutDigits();
        believedAfterTheRoll();
        wear99AtMost();
        oil0AtLeast();
        wearsAheadOfOil();
        nightOneMore();
        due.finish("EdgeBankTest");
    }

    private static MachinesDream two() {
        MachinesDream x = new MachinesDream();
        x.machine(1, 10);
        x.machine(2, 20);
        return x;
    }

    private static void asAtFirst() {
        due.promise("1, I: at first");
        MachinesDream x = new MachinesDream();
        for (int what = 0; what <= 8; what++) {
            due.is("about(" + what + ")", x.about(what), what == 2 ? -1 : 0);
        }
        for (int machine = 0; machine < 5; machine++) {
            due.is("of(" + machine + ", 0)", x.of(machine, 0), -1);
        }
        due.is("NIGHT", x.is(0), 0);
        due.is("X", x.is(1), 193);
        due.is("BOOK", x.book(-1, 0), 0);
        due.is("FAULT", x.fault(0), -1);
        for (int digit = 0; digit <= 9; digit++) {
            due.is("strict: the digit itself", x.told(digit, false), 1 + digit);
            due.is("loose: the digit twice", x.told(digit, true), 11 + 10 * digit + digit);
        }
        due.is("OIL, SUM, ROLL need a machine", x.machine(0, 42), 0);
        due.is("WEAR as told", x.of(0, 1), 42);
        due.is("OIL", x.of(0, 2), 0);
        due.is("SUM", x.of(0, 3), 0);
        due.is("ROLL", x.of(0, 4), 0);
        due.is("no digit of it", x.of(0, 10), -1);
    }

    private static void theImageIsThis() {
        due.promise("1: THE IMAGE is this");
        MachinesDream x = new MachinesDream();
        String fresh = Due.seen(x);
        x.machine(1, 2);
        x.rule(1, false, 0);
        x.crank(0, 5);
        x.night(2);
        x.put(1);
        x.second(2);
        x.day(3);
        x.looser(0, 1);
        x.likes(true, 0, 0, 9);
        x.needs(0, 9);
        due.no("all is as at first", Due.seen(x).equals(fresh));
        due.is("back()", x.back(), 0);
        due.same("all", Due.seen(x), fresh);
    }

    private static void brassRange() {
        due.promise("2: BRASS 0 .. 9, NONE for others");
        MachinesDream x = new MachinesDream();
        for (int brass : new int[] {-1, 10, LOW, HIGH}) {
            due.is("machine(" + brass + ", 0)", x.machine(brass, 0), -1);
        }
        due.is("none is told by that", x.about(0), 0);
        due.is("machine(0, 0)", x.machine(0, 0), 0);
        due.is("machine(9, 0)", x.machine(9, 0), 1);
        due.is("of(0, 0)", x.of(0, 0), 0);
        due.is("of(1, 0)", x.of(1, 0), 9);
    }

    private static void wearRange() {
        due.promise("2: WEAR 0 .. 99, NONE for others");
        MachinesDream x = new MachinesDream();
        for (int wear : new int[] {-1, 100, LOW, HIGH}) {
            due.is("machine(0, " + wear + ")", x.machine(0, wear), -1);
        }
        due.is("none is told by that", x.about(0), 0);
        due.is("machine(0, 0)", x.machine(0, 0), 0);
        due.is("machine(0, 99)", x.machine(0, 99), 1);
        due.is("of(0, 1)", x.of(0, 1), 0);
        due.is("of(1, 1)", x.of(1, 1), 99);
    }

    private static void atMostFiveMachines() {
        due.promise("2: its number; NONE if there are 5");
        MachinesDream x = new MachinesDream();
        for (int k = 0; k < 5; k++) {
            due.is("machine", x.machine(k, 10 * k), k);
            due.is("about(0)", x.about(0), k + 1);
        }
        String five = Due.seen(x);
        due.is("the sixth", x.machine(1, 1), -1);
        due.same("nothing is done", Due.seen(x), five);
        due.is("of(4, 1)", x.of(4, 1), 40);
        due.is("of(5, 1)", x.of(5, 1), -1);
    }

    private static void ruleDigitRange() {
        due.promise("3: digits 0 .. 9, false for others");
        MachinesDream x = new MachinesDream();
        String fresh = Due.seen(x);
        for (int digit : new int[] {-1, 10, LOW, HIGH}) {
            due.no("rule(" + digit + ", false, 5)", x.rule(digit, false, 5));
            due.no("rule(" + digit + ", true, 5)", x.rule(digit, true, 5));
        }
        due.same("nothing is told", Due.seen(x), fresh);
        for (int digit : new int[] {0, 9}) {
            due.yes("rule(" + digit + ", false, 5)", x.rule(digit, false, 5));
            due.is("told", x.told(digit, false), 5);
            due.yes("rule(" + digit + ", true, 6)", x.rule(digit, true, 6));
            due.is("told", x.told(digit, true), 6);
        }
    }

    private static void ruleWordRange() {
        due.promise("3: WORDS 0 .. 110, false for others");
        MachinesDream x = new MachinesDream();
        for (int word : new int[] {-1, 111, LOW, HIGH}) {
            due.no("rule(4, false, " + word + ")", x.rule(4, false, word));
            due.no("rule(4, true, " + word + ")", x.rule(4, true, word));
        }
        due.is("told(4, false)", x.told(4, false), 5);
        due.is("told(4, true)", x.told(4, true), 55);
        for (int word : new int[] {0, 110}) {
            due.yes("rule(4, false, " + word + ")", x.rule(4, false, word));
            due.yes("rule(4, true, " + word + ")", x.rule(4, true, word));
            due.is("told(4, false)", x.told(4, false), word);
            due.is("told(4, true)", x.told(4, true), word);
        }
    }

    private static void wordNumbers() {
        due.promise("I: 0 none, 1 .. 10 the digit that is one less, 11 .. 110 two digits");
        int[] numbers = {0, 1, 2, 9, 10, 11, 12, 20, 21, 30, 31, 100, 101, 109, 110};
        String[] words = {"", "0", "1", "8", "9", "00", "01", "09", "10", "19", "20", "89", "90", "98", "99"};
        for (int k = 0; k < numbers.length; k++) {
            MachinesDream x = new MachinesDream();
            x.machine(0, 0);
            x.crank(0, 7);
            x.rule(7, false, numbers[k]);
            x.night(1);
            due.same("the WORD of " + numbers[k], Due.roll(x, 0), words[k]);
        }
    }

    private static void strictAndLooseApart() {
        due.promise("I: of each digit a strict and a loose one");
        MachinesDream x = new MachinesDream();
        for (int digit = 0; digit < 10; digit++) {
            x.rule(digit, false, 20 + digit);
            x.rule(digit, true, 60 + digit);
        }
        for (int digit = 0; digit < 10; digit++) {
            due.is("told(" + digit + ", false)", x.told(digit, false), 20 + digit);
            due.is("told(" + digit + ", true)", x.told(digit, true), 60 + digit);
        }
    }

    private static void crankNumberRange() {
        due.promise("9: NUMBER 0 .. 9999, NONE for others");
        MachinesDream x = two();
        String ahead = Due.seen(x);
        for (int number : new int[] {-1, 10000, LOW, HIGH}) {
            due.is("crank(0, " + number + ")", x.crank(0, number), -1);
        }
        due.same("nothing is done", Due.seen(x), ahead);
        due.is("crank(0, 0)", x.crank(0, 0), 0);
        due.is("crank(1, 9999)", x.crank(1, 9999), 9999);
        due.is("about(3)", x.about(3), 2);
    }

    private static void crankMachineRange() {
        due.promise("9: MACHINES that are told, NONE for others");
        MachinesDream x = two();
        String ahead = Due.seen(x);
        for (int machine : OUT_OF_BANK) {
            due.is("crank(" + machine + ", 1)", x.crank(machine, 1), -1);
        }
        due.same("nothing is done", Due.seen(x), ahead);
        due.is("crank(0, 1)", x.crank(0, 1), 1);
        due.is("crank(1, 2)", x.crank(1, 2), 2);
    }

    private static void crankBelowWear99() {
        due.promise("9: a MACHINE of WEAR below 99");
        MachinesDream x = new MachinesDream();
        x.machine(0, 98);
        x.machine(0, 99);
        due.is("crank(1, 1) at 99", x.crank(1, 1), -1);
        due.is("crank(1, 0) at 99", x.crank(1, 0), -1);
        due.is("about(3)", x.about(3), 0);
        due.is("crank(0, 1) at 98", x.crank(0, 1), 1);
        due.is("WEAR one more", x.of(0, 1), 99);
        due.is("crank(0, 1) at 99", x.crank(0, 1), -1);
        due.is("WEAR", x.of(0, 1), 99);
        due.is("SUM", x.of(0, 3), 1);
        due.is("about(3)", x.about(3), 1);
    }

    private static void sumMod10000() {
        due.promise("9: SUM and it together mod 10000");
        int[][] rows = {{9998, 1, 9999}, {9999, 0, 9999}, {9999, 1, 0}, {1, 9999, 0}, {5000, 5000, 0}, {9999, 9999, 9998},
            {0, 9999, 9999}, {0, 0, 0}};
        for (int[] row : rows) {
            MachinesDream x = two();
            x.crank(1, row[0]);
            due.is(row[0] + " and " + row[1], x.crank(1, row[1]), row[2]);
            due.is("SUM", x.of(1, 3), row[2]);
            due.is("WEAR", x.of(1, 1), 22);
        }
    }

    private static void crankLeavesTheRest() {
        due.promise("9: SUM and WEAR alone");
        MachinesDream x = two();
        x.oil(0, 4);
        x.night(1);
        x.crank(0, 3);
        due.is("BRASS", x.of(0, 0), 1);
        due.is("OIL", x.of(0, 2), 3);
        due.is("digits of the ROLL", x.of(0, 4) > 0 ? 1 : 0, 1);
        due.is("NIGHT", x.is(0), 1);
        due.is("the other's SUM", x.of(1, 3), 0);
        due.is("the other's WEAR", x.of(1, 1), 21);
    }

    private static void oilRange() {
        due.promise("10: n 0 .. 9, false for others");
        MachinesDream x = two();
        String ahead = Due.seen(x);
        for (int n : new int[] {-1, 10, LOW, HIGH}) {
            due.no("oil(0, " + n + ")", x.oil(0, n));
        }
        due.same("nothing is done", Due.seen(x), ahead);
        due.yes("oil(0, 9)", x.oil(0, 9));
        due.is("OIL", x.of(0, 2), 9);
        due.yes("oil(0, 0)", x.oil(0, 0));
        due.is("OIL", x.of(0, 2), 0);
    }

    private static void oilMachineRange() {
        due.promise("10: MACHINES that are told, false for others");
        MachinesDream x = two();
        String ahead = Due.seen(x);
        for (int machine : OUT_OF_BANK) {
            due.no("oil(" + machine + ", 1)", x.oil(machine, 1));
        }
        due.same("nothing is done", Due.seen(x), ahead);
        due.yes("oil(0, 1)", x.oil(0, 1));
        due.yes("oil(1, 2)", x.oil(1, 2));
        due.is("OIL of 0", x.of(0, 2), 1);
        due.is("OIL of 1", x.of(1, 2), 2);
    }

    private static void oiledIsThat() {
        due.promise("10: OIL is that");
        MachinesDream x = two();
        x.oil(0, 9);
        x.oil(0, 9);
        due.is("not more", x.of(0, 2), 9);
        x.oil(0, 3);
        due.is("less than it was", x.of(0, 2), 3);
        due.is("WEAR", x.of(0, 1), 10);
        due.is("each is a step, the same one again too", x.about(3), 3);
    }

    private static void liftNeedsARoll() {
        due.promise("11: a MACHINE with a ROLL: it has none; false if it can't be");
        MachinesDream x = two();
        due.no("lift(0) at first", x.lift(0));
        due.is("no step", x.about(3), 0);
        x.night(1);
        due.is("one digit", x.of(0, 4), 1);
        due.yes("lift(0)", x.lift(0));
        due.is("none", x.of(0, 4), 0);
        due.is("none", x.of(0, 10), -1);
        due.is("the other's stays", x.of(1, 4), 1);
        due.is("a step", x.about(3), 2);
        due.no("lift(0) again", x.lift(0));
        due.is("no step", x.about(3), 2);
        x.night(1);
        due.yes("lift(0) behind a night", x.lift(0));
    }

    private static void liftOfARollWithoutDigits() {
        due.promise("11: a ROLL of no digits is none");
        MachinesDream x = new MachinesDream();
        x.machine(0, 0);
        x.rule(0, false, 0);
        x.night(1);
        due.is("digits", x.of(0, 4), 0);
        due.is("blank()", x.blank(), 1);
        due.no("lift(0)", x.lift(0));
        x.rule(0, false, 1);
        x.night(1);
        due.is("blank()", x.blank(), 0);
        due.yes("lift(0)", x.lift(0));
    }

    private static void liftMachineRange() {
        due.promise("11: MACHINES that are told, false for others");
        MachinesDream x = two();
        x.night(1);
        String ahead = Due.seen(x);
        for (int machine : OUT_OF_BANK) {
            due.no("lift(" + machine + ")", x.lift(machine));
        }
        due.same("nothing is done", Due.seen(x), ahead);
        due.yes("lift(0)", x.lift(0));
        due.yes("lift(1)", x.lift(1));
    }

    private static void nightRange() {
        due.promise("12: 1 .. 60, NONE for others");
        MachinesDream x = two();
        String ahead = Due.seen(x);
        for (int n : new int[] {0, -1, 61, LOW, HIGH}) {
            due.is("night(" + n + ")", x.night(n), -1);
        }
        due.same("nothing is done", Due.seen(x), ahead);
        x.by(-1);
        due.is("night(1) passes", x.night(1) >= 0 ? 1 : 0, 1);
        due.is("NIGHT", x.is(0), 1);
        due.is("night(60) passes", x.night(60) >= 0 ? 1 : 0, 1);
        due.is("NIGHT", x.is(0), 61);
    }

    private static void nightBeyond9999() {
        due.promise("12: NONE beyond 9999");
        due.is("60 to 9999", Due.late(9939).night(60), 0);
        due.is("60 beyond it", Due.late(9940).night(60), -1);
        due.is("59 to 9999", Due.late(9940).night(59), 0);
        due.is("1 to 9999", Due.late(9998).night(1), 0);
        due.is("2 beyond it", Due.late(9998).night(2), -1);
        due.is("1 at 9999", Due.late(9999).night(1), -1);
        MachinesDream x = Due.late(9939);
        x.night(60);
        due.is("NIGHT", x.is(0), 9999);
    }

    private static void nightRefusedDoesNothing() {
        due.promise("12: nothing is done then");
        MachinesDream x = Due.late(9998);
        x.machine(0, 7);
        due.is("night(2)", x.night(2), -1);
        due.is("NIGHT", x.is(0), 9998);
        due.is("X", x.is(1), 193);
        due.is("WEAR", x.of(0, 1), 7);
        due.is("ROLL", x.of(0, 4), 0);
        x.night(1);
        String last = Due.seen(x);
        due.is("night(1)", x.night(1), -1);
        due.same("nothing", Due.seen(x), last);
    }

    private static void howManyBelieved() {
        due.promise("12: how many ROLLS were BELIEVED in them");
        MachinesDream x = new MachinesDream();
        due.is("without machines", x.night(60), 0);
        for (int k = 0; k < 5; k++) {
            x.machine(0, 0);
        }
        Due.text(x, "believes 10;");
        Due.text(x, "believes 0;");
        Due.text(x, "believes if who=2 and night=123 then 10 else 0 end;");
        x.by(0);
        due.is("all of all", x.night(60), 300);
        x.by(1);
        due.is("none of all", x.night(1), 0);
        x.by(2);
        due.is("ahead of the one", x.night(2), 0);
        due.is("NIGHT", x.is(0), 123);
        due.is("the one", x.night(2), 1);
    }

    private static void machinesByNumber() {
        due.promise("I: MACHINES by number");
        String[] rolls = rollsByDraws(1, 9, 5);
        // The first draw, 1, is for machine 0: below 2; the third, 5, for machine 1: not below 5.
        due.same("ROLL of 0", rolls[0], "33");
        due.same("ROLL of 1", rolls[1], "4");
        rolls = rollsByDraws(2, 9, 4);
        due.same("ROLL of 0", rolls[0], "3");
        due.same("ROLL of 1", rolls[1], "44");
    }

    /** Behind a night, of a machine with SUM 3 and OIL 2 and one with SUM 4 and OIL 5. */
    private static String[] rollsByDraws(int... draws) {
        MachinesDream x = Due.drawing(draws);
        x.machine(0, 0);
        x.machine(0, 0);
        x.crank(0, 3);
        x.crank(1, 4);
        x.oil(0, 2);
        x.oil(1, 5);
        x.night(1);
        return new String[] {Due.roll(x, 0), Due.roll(x, 1)};
    }

    private static void asAllIsThen() {
        due.promise("I: as all is then");
        MachinesDream x = new MachinesDream();
        Due.text(x, "believes 10;loose 0;wears sums(1-who);");
        x.by(0);
        x.machine(0, 0);
        x.machine(0, 0);
        x.crank(0, 1);
        x.crank(1, 2);
        x.rule(1, false, 6);
        x.rule(2, false, 8);
        x.night(1);
        // Machine 0 wears by the other's SUM ahead, 2; machine 1 by the first one's SUM then, 5.
        due.is("WEAR of 0", x.of(0, 1), 3);
        due.is("WEAR of 1", x.of(1, 1), 6);
        due.is("SUM of 0", x.of(0, 3), 5);
        due.is("SUM of 1", x.of(1, 3), 7);
    }

    private static void rollAnew() {
        due.promise("I: its ROLL anew");
        MachinesDream x = new MachinesDream();
        Due.text(x, "believes 0;loose 0;");
        x.by(0);
        x.machine(0, 0);
        x.crank(0, 9876);
        x.night(1);
        due.same("ROLL", Due.roll(x, 0), "9876");
        x.night(1);
        due.same("not behind the one ahead", Due.roll(x, 0), "9876");
        x.crank(0, 126);
        x.night(1);
        due.same("a shorter one", Due.roll(x, 0), "2");
        due.is("nothing of the longer one is left", x.of(0, 11), -1);
    }

    private static void zeroIsOneZero() {
        due.promise("I: each digit of SUM from the first on (0: one 0)");
        int[] sums = {0, 1, 9, 10, 99, 100, 999, 1000, 9999, 5060, 102};
        for (int sum : sums) {
            MachinesDream x = new MachinesDream();
            x.machine(0, 0);
            x.crank(0, sum);
            x.night(1);
            due.same("ROLL of " + sum, Due.roll(x, 0), "" + sum);
        }
        MachinesDream x = new MachinesDream();
        x.machine(0, 0);
        x.night(1);
        int drawn = Due.renewed(Due.renewed(193));
        due.is("one draw for the one 0, one for what is believed", x.is(1), drawn);
    }

    private static void drawsByX() {
        due.promise("I: X mod 10, X being (X * 433 + 313) mod 30557 then");
        MachinesDream x = new MachinesDream();
        x.machine(0, 0);
        x.machine(0, 0);
        x.crank(0, 123);
        x.crank(1, 5678);
        x.night(1);
        int drawn = 193;
        for (int k = 0; k < 4 + 5; k++) {
            drawn = Due.renewed(drawn);
        }
        due.is("a draw for each digit and each machine", x.is(1), drawn);
        // 193 * 433 + 313 is 83882, less twice 30557.
        MachinesDream y = new MachinesDream();
        y.decades(0, 1);
        due.is("the first one", y.is(1), 22768);
    }

    /** The digits of the ROLL of 7, by the draw ahead and how loose. */
    private static int digits(int draw, int loose) {
        MachinesDream x = Due.drawing(draw, 9);
        x.machine(0, 0);
        x.crank(0, 7);
        Due.text(x, "believes 0;loose " + loose + ";");
        x.by(0);
        x.night(1);
        return x.of(0, 4);
    }

    private static void drawBelowLoose() {
        due.promise("I: below loose: the loose RULE's WORD, else the strict one's");
        for (int draw = 0; draw <= 9; draw++) {
            due.is("draw " + draw + " by " + draw, digits(draw, draw), 1);
            due.is("draw " + draw + " by " + (draw + 1), digits(draw, draw + 1), 2);
        }
        due.is("0 by 0: never", digits(0, 0), 1);
        due.is("9 by 10: always", digits(9, 10), 2);
    }

    private static void rollOfEightAtMost() {
        due.promise("I: what would come behind 12 digits: eight are the most there can be");
        MachinesDream x = new MachinesDream();
        Due.text(x, "loose 10;believes 0;");
        x.by(0);
        x.machine(0, 0);
        x.crank(0, 9876);
        x.night(1);
        due.same("ROLL", Due.roll(x, 0), "99887766");
        due.is("of(0, 17)", x.of(0, 17), 6);
        due.is("of(0, 18)", x.of(0, 18), -1);
    }

    /** Whether the ROLL is believed, by the draw and believes. */
    private static int believed(int draw, int believes) {
        MachinesDream x = Due.drawing(5, draw);
        x.machine(0, 0);
        Due.text(x, "believes " + believes + ";");
        x.by(0);
        int n = x.night(1);
        due.is("the book", x.book(-1, 0), n);
        return n;
    }

    private static void drawBelowBelieves() {
        due.promise("I: a draw by 10: below believes");
        for (int draw = 0; draw <= 9; draw++) {
            due.is("draw " + draw + " by " + draw, believed(draw, draw), 0);
            due.is("draw " + draw + " by " + (draw + 1), believed(draw, draw + 1), 1);
        }
        due.is("0 by 0: never", believed(0, 0), 0);
        due.is("9 by 10: always", believed(9, 10), 1);
    }

    private static int sumBelieved(int sum, String rules) {
        MachinesDream x = new MachinesDream();
        Due.text(x, "believes 10;loose 0;" + rules);
        x.by(0);
        x.machine(0, 0);
        x.crank(0, sum);
        x.played(0);
        x.night(1);
        return x.of(0, 3);
    }

    private static void numberOfTheRoll() {
        due.promise("I: SUM is the number of its ROLL (of its last four digits, if there are more)");
        due.is("of one digit", sumBelieved(7, ""), 7);
        due.is("of three", sumBelieved(791, ""), 791);
        due.is("of four", sumBelieved(7912, ""), 7912);
        due.is("of five: 34679", sumBelieved(1679, "strict 1 to 45;"), 4679);
        due.is("of eight: 12345678", sumBelieved(1357, "strict 1 to 23;strict 3 to 45;strict 5 to 67;strict 7 to 89;"), 5678);
        due.is("of five, 0s ahead: 60045", sumBelieved(6145, "strict 1 to 11;"), 45);
        due.is("of two: 03", sumBelieved(13, "strict 1 to 1;"), 3);
        due.is("of four: 0000", sumBelieved(11, "strict 1 to 11;"), 0);
    }

    private static void rollWithoutDigits() {
        due.promise("I: 0 without any");
        due.is("no digits", sumBelieved(1111, "strict 1 to 0;"), 0);
        due.is("one digit", sumBelieved(1112, "strict 1 to 0;"), 2);
        MachinesDream x = new MachinesDream();
        Due.text(x, "believes 10;loose 0;");
        x.by(0);
        x.machine(0, 0);
        x.crank(0, 5);
        x.rule(5, false, 0);
        due.is("it is believed all the same", x.night(1), 1);
        due.is("and written down", x.book(0, 2), 5);
        due.is("and written down", x.book(0, 3), 0);
    }

    private static void believedAfterTheRoll() {
        due.promise("I: written down: NIGHT, MACHINE, SUM ahead, SUM then");
        MachinesDream x = new MachinesDream();
        Due.text(x, "believes if who=1 then 10 else 0 end;loose 0;");
        x.by(0);
        x.machine(0, 0);
        x.machine(0, 0);
        x.night(7);
        due.is("rows", x.book(-1, 0), 7);
        x.crank(1, 12);
        x.rule(1, false, 20);
        x.night(1);
        int[] row = {7, 1, 12, 92};
        for (int what = 0; what < 4; what++) {
            due.is("book(7, " + what + ")", x.book(7, what), row[what]);
        }
        due.is("one that is not believed leaves SUM", x.of(0, 3), 0);
    }

    private static int wearBehind(int wear, int wears) {
        MachinesDream x = new MachinesDream();
        Due.text(x, "wears " + wears + ";");
        x.by(0);
        x.machine(0, wear);
        x.night(1);
        return x.of(0, 1);
    }

    private static void wear99AtMost() {
        due.promise("I: WEAR is more by wears (99 at most)");
        due.is("0 by 0", wearBehind(0, 0), 0);
        due.is("0 by 9", wearBehind(0, 9), 9);
        due.is("98 by 1", wearBehind(98, 1), 99);
        due.is("98 by 2", wearBehind(98, 2), 99);
        due.is("99 by 1", wearBehind(99, 1), 99);
        due.is("90 by 9", wearBehind(90, 9), 99);
        due.is("91 by 9", wearBehind(91, 9), 99);
        due.is("89 by 9", wearBehind(89, 9), 98);
        due.is("99 by 0", wearBehind(99, 0), 99);
    }

    private static void oil0AtLeast() {
        due.promise("I: OIL one less (0 at least)");
        MachinesDream x = new MachinesDream();
        x.machine(0, 0);
        x.night(1);
        due.is("0 stays", x.of(0, 2), 0);
        x.oil(0, 1);
        x.night(1);
        due.is("1 less 1", x.of(0, 2), 0);
        x.oil(0, 9);
        x.night(1);
        due.is("9 less 1", x.of(0, 2), 8);
        x.night(8);
        due.is("8 less 8", x.of(0, 2), 0);
        x.night(1);
        due.is("0 stays", x.of(0, 2), 0);
    }

    private static void wearsAheadOfOil() {
        due.promise("I: WEAR first, then OIL");
        MachinesDream x = new MachinesDream();
        x.machine(0, 5);
        x.oil(0, 1);
        x.night(1);
        due.is("OIL was 1 when it wore", x.of(0, 1), 5);
        x.night(1);
        due.is("OIL was 0 when it wore", x.of(0, 1), 6);
        Due.text(x, "wears oil;");
        x.by(0);
        x.oil(0, 4);
        x.night(1);
        due.is("by OIL ahead", x.of(0, 1), 10);
        due.is("OIL", x.of(0, 2), 3);
    }

    private static void nightOneMore() {
        due.promise("I: NIGHT is one more, behind all of it");
        MachinesDream x = new MachinesDream();
        Due.text(x, "wears night;believes 10;");
        x.by(0);
        x.machine(0, 0);
        x.night(1);
        due.is("0 at the first one", x.of(0, 1), 0);
        due.is("in the book too", x.book(0, 0), 0);
        x.night(1);
        due.is("1 at the second one", x.of(0, 1), 1);
        due.is("in the book too", x.book(1, 0), 1);
        due.is("NIGHT", x.is(0), 2);
    }
}
