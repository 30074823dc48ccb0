/** Promises 1 to 3 and 9 to 20 but 13: machines, rules, nights, steps, book. */
public final class BankTest {
    private static final int LOW = Integer.MIN_VALUE;
    private static final int HIGH = Integer.MAX_VALUE;
    private static final Due due = new Due();

    public static void main(String[] args) {
        newObject();
        machine();
        rule();
        crank();
        oil();
        lift();
        night();
        believing();
        decades();
        undo();
        undoOfBook();
        of();
        told();
        is();
        book();
        foretold();
        due.finish("BankTest");
    }

    private static void newObject() {
        due.promise("1 a new object");
        MachinesDream x = new MachinesDream();
        int[] about = {0, 0, -1, 0, 0, 0, 0, 0, 0};
        for (int i = 0; i < about.length; i++) {
            due.is("about(" + i + ")", x.about(i), about[i]);
        }
        due.is("is(0)", x.is(0), 0);
        due.is("is(1)", x.is(1), 193);
        due.is("book(-1, 0)", x.book(-1, 0), 0);
        due.is("of(0, 0)", x.of(0, 0), -1);
        x.machine(1, 1);
        x.rule(0, false, 0);
        x.night(2);
        x.put(1);
        due.is("back()", x.back(), 0);
        due.is("about(0)", x.about(0), 0);
        due.is("about(3)", x.about(3), 0);
        due.is("about(4)", x.about(4), 0);
        due.is("told(0, false)", x.told(0, false), 1);
        due.is("is(1)", x.is(1), 193);
    }

    private static void machine() {
        due.promise("2 machine");
        MachinesDream x = new MachinesDream();
        for (int[] wrong : new int[][] {{-1, 0}, {10, 0}, {0, -1}, {0, 100}, {LOW, 0}, {HIGH, 0}, {0, LOW}, {0, HIGH}}) {
            due.is("machine(" + wrong[0] + ", " + wrong[1] + ")", x.machine(wrong[0], wrong[1]), -1);
        }
        due.is("about(0)", x.about(0), 0);
        due.is("machine(0, 0)", x.machine(0, 0), 0);
        due.is("machine(9, 99)", x.machine(9, 99), 1);
        due.is("machine(5, 50)", x.machine(5, 50), 2);
        due.is("machine(5, 50)", x.machine(5, 50), 3);
        due.is("machine(1, 2)", x.machine(1, 2), 4);
        due.is("machine(1, 2), the sixth", x.machine(1, 2), -1);
        due.is("about(0)", x.about(0), 5);
        due.is("of(1, 0)", x.of(1, 0), 9);
        due.is("of(1, 1)", x.of(1, 1), 99);
        due.is("of(1, 2)", x.of(1, 2), 0);
        due.is("of(1, 3)", x.of(1, 3), 0);
        due.is("of(1, 4)", x.of(1, 4), 0);
        due.is("about(3)", x.about(3), 0);
    }

    private static void rule() {
        due.promise("3 rule");
        MachinesDream x = new MachinesDream();
        due.no("rule(-1, false, 0)", x.rule(-1, false, 0));
        due.no("rule(10, false, 0)", x.rule(10, false, 0));
        due.no("rule(0, true, -1)", x.rule(0, true, -1));
        due.no("rule(0, true, 111)", x.rule(0, true, 111));
        due.no("rule(LOW, true, 0)", x.rule(LOW, true, 0));
        due.no("rule(HIGH, true, 0)", x.rule(HIGH, true, 0));
        due.yes("rule(0, false, 0)", x.rule(0, false, 0));
        due.yes("rule(9, true, 110)", x.rule(9, true, 110));
        due.is("told(0, false)", x.told(0, false), 0);
        due.is("told(0, true)", x.told(0, true), 11);
        due.is("told(9, true)", x.told(9, true), 110);
        due.is("told(9, false)", x.told(9, false), 10);
        // Words as they come on a roll: none, the digit one less, two digits.
        x.machine(0, 0);
        x.crank(0, 1234);
        x.rule(1, false, 0);
        x.rule(2, false, 1);
        x.rule(3, false, 10);
        x.rule(4, false, 11);
        x.night(1);
        int[] roll = {0, 9, 0, 0};
        due.is("of(0, 4)", x.of(0, 4), 4);
        for (int i = 0; i < roll.length; i++) {
            due.is("of(0, " + (10 + i) + ")", x.of(0, 10 + i), roll[i]);
        }
        x.rule(1, false, 110);
        x.rule(2, false, 20);
        x.undo();
        x.night(1);
        int[] next = {9, 9, 0, 9, 9, 0, 0};
        due.is("of(0, 4)", x.of(0, 4), 7);
        for (int i = 0; i < next.length; i++) {
            due.is("of(0, " + (10 + i) + ")", x.of(0, 10 + i), next[i]);
        }
    }

    private static void crank() {
        due.promise("9 crank");
        MachinesDream x = new MachinesDream();
        due.is("crank(0, 1) of none", x.crank(0, 1), -1);
        x.machine(0, 96);
        x.machine(0, 99);
        due.is("crank(-1, 1)", x.crank(-1, 1), -1);
        due.is("crank(2, 1)", x.crank(2, 1), -1);
        due.is("crank(0, -1)", x.crank(0, -1), -1);
        due.is("crank(0, 10000)", x.crank(0, 10000), -1);
        due.is("crank(LOW, 1)", x.crank(LOW, 1), -1);
        due.is("crank(HIGH, 1)", x.crank(HIGH, 1), -1);
        due.is("crank(1, 0) at 99", x.crank(1, 0), -1);
        due.is("about(3)", x.about(3), 0);
        due.is("crank(0, 9999)", x.crank(0, 9999), 9999);
        due.is("crank(0, 0)", x.crank(0, 0), 9999);
        due.is("crank(0, 2)", x.crank(0, 2), 1);
        due.is("of(0, 1)", x.of(0, 1), 99);
        due.is("crank(0, 2)", x.crank(0, 2), -1);
        due.is("of(0, 3)", x.of(0, 3), 1);
        due.is("about(3)", x.about(3), 3);
    }

    private static void oil() {
        due.promise("10 oil");
        MachinesDream x = new MachinesDream();
        due.no("oil(0, 1) of none", x.oil(0, 1));
        x.machine(0, 0);
        due.no("oil(0, -1)", x.oil(0, -1));
        due.no("oil(0, 10)", x.oil(0, 10));
        due.no("oil(1, 1)", x.oil(1, 1));
        due.no("oil(-1, 1)", x.oil(-1, 1));
        due.no("oil(LOW, 1)", x.oil(LOW, 1));
        due.is("about(3)", x.about(3), 0);
        due.yes("oil(0, 9)", x.oil(0, 9));
        due.is("of(0, 2)", x.of(0, 2), 9);
        due.yes("oil(0, 0)", x.oil(0, 0));
        due.is("of(0, 2)", x.of(0, 2), 0);
        due.yes("oil(0, 4)", x.oil(0, 4));
        due.yes("oil(0, 4) again", x.oil(0, 4));
        due.is("of(0, 2)", x.of(0, 2), 4);
        due.is("about(3)", x.about(3), 4);
    }

    private static void lift() {
        due.promise("11 lift");
        MachinesDream x = new MachinesDream();
        due.no("lift(0) of none", x.lift(0));
        x.machine(0, 0);
        due.no("lift(0) without a roll", x.lift(0));
        due.is("about(3)", x.about(3), 0);
        x.night(1);
        due.no("lift(-1)", x.lift(-1));
        due.no("lift(1)", x.lift(1));
        due.no("lift(HIGH)", x.lift(HIGH));
        due.yes("lift(0)", x.lift(0));
        due.is("of(0, 4)", x.of(0, 4), 0);
        due.is("about(3)", x.about(3), 2);
        due.no("lift(0) again", x.lift(0));
        // A roll without digits is none.
        x.rule(0, false, 0);
        x.night(1);
        due.is("of(0, 4)", x.of(0, 4), 0);
        due.no("lift(0) of no digits", x.lift(0));
    }

    private static void night() {
        due.promise("12 night");
        MachinesDream x = new MachinesDream();
        due.is("night(0)", x.night(0), -1);
        due.is("night(61)", x.night(61), -1);
        due.is("night(LOW)", x.night(LOW), -1);
        due.is("night(HIGH)", x.night(HIGH), -1);
        due.is("night(60) without machines", x.night(60), 0);
        due.is("is(0)", x.is(0), 60);
        due.is("is(1)", x.is(1), 193);
        due.is("about(3)", x.about(3), 30);
        for (int i = 0; i < 165; i++) {
            x.night(60);
        }
        x.night(36);
        due.is("is(0)", x.is(0), 9996);
        due.is("night(4) beyond", x.night(4), -1);
        due.is("is(0)", x.is(0), 9996);
        due.is("night(3)", x.night(3), 0);
        due.is("is(0)", x.is(0), 9999);
        due.is("night(1) at the end", x.night(1), -1);
        due.is("undo()", x.undo(), 29);
        due.is("night(1)", x.night(1), 0);
        wearAndOil();
        looseAndStrict();
    }

    private static void wearAndOil() {
        MachinesDream x = new MachinesDream();
        x.machine(0, 97);
        x.oil(0, 2);
        int[] wear = {97, 97, 98, 99, 99};
        int[] oil = {1, 0, 0, 0, 0};
        for (int i = 0; i < wear.length; i++) {
            x.night(1);
            due.is("wear behind night " + i, x.of(0, 1), wear[i]);
            due.is("oil behind night " + i, x.of(0, 2), oil[i]);
        }
    }

    /** X 193 gives the draws 3, 8, .. : a draw takes X as it was. */
    private static void looseAndStrict() {
        MachinesDream x = new MachinesDream();
        x.machine(0, 0);
        x.crank(0, 56);
        x.oil(0, 3);
        due.is("foretold(1, 0, 2) at 3", x.foretold(1, 0, 2), 2);
        x.oil(0, 4);
        due.is("foretold(1, 0, 2) at 4", x.foretold(1, 0, 2), 3);
        x.oil(0, 8);
        due.is("foretold(1, 0, 2) at 8", x.foretold(1, 0, 2), 3);
        x.oil(0, 9);
        due.is("foretold(1, 0, 2) at 9", x.foretold(1, 0, 2), 4);
        x.oil(0, 4);
        x.night(1);
        due.is("of(0, 10)", x.of(0, 10), 5);
        due.is("of(0, 11)", x.of(0, 11), 5);
        due.is("of(0, 12)", x.of(0, 12), 6);
        due.is("of(0, 13)", x.of(0, 13), -1);
        // Three draws, each (X * 433 + 313) mod 30557.
        int drawn = 193;
        for (int i = 0; i < 3; i++) {
            drawn = (drawn * 433 + 313) % 30557;
        }
        due.is("is(1)", x.is(1), drawn);
    }

    private static void believing() {
        due.promise("12 night, what is believed");
        MachinesDream x = new MachinesDream();
        Due.text(x, "believes 10;loose if who=1 then 10 else 0 end;wears long;");
        x.by(0);
        x.machine(0, 0);
        x.machine(0, 0);
        x.crank(0, 1002);
        x.crank(1, 1234);
        x.rule(1, false, 0);
        due.is("night(1)", x.night(1), 2);
        // 002 is 2; of 11223344 the last four.
        due.is("of(0, 3)", x.of(0, 3), 2);
        due.is("of(1, 3)", x.of(1, 3), 3344);
        due.is("of(1, 4)", x.of(1, 4), 8);
        due.is("of(0, 1)", x.of(0, 1), 4);
        due.is("of(1, 1)", x.of(1, 1), 9);
        // No digits at all: 0.
        x.rule(2, false, 0);
        due.is("night(1)", x.night(1), 2);
        due.is("of(0, 3)", x.of(0, 3), 0);
        due.is("of(0, 4)", x.of(0, 4), 0);
        due.is("night(3)", x.night(3), 6);
        asAllIsThen();
    }

    /** The second machine's laws see what the night has made of the first; wears sees the SUM that was believed. */
    private static void asAllIsThen() {
        MachinesDream x = new MachinesDream();
        Due.text(x, "believes if who=0 then 10 else sums 0 end;loose 0;wears sum;");
        x.by(0);
        x.machine(0, 0);
        x.machine(0, 0);
        x.crank(0, 4);
        x.rule(4, false, 1);
        due.is("of(1, 6) ahead", x.of(1, 6), 4);
        due.is("night(1)", x.night(1), 1);
        due.is("of(0, 1)", x.of(0, 1), 1);
        due.is("of(0, 3)", x.of(0, 3), 0);
        due.is("book(-1, 0)", x.book(-1, 0), 1);
    }

    private static void decades() {
        due.promise("14 decades");
        MachinesDream x = new MachinesDream();
        due.is("decades(-1, 1)", x.decades(-1, 1), -1);
        due.is("decades(10000, 1)", x.decades(10000, 1), -1);
        due.is("decades(0, 0)", x.decades(0, 0), -1);
        due.is("decades(0, 41)", x.decades(0, 41), -1);
        due.is("decades(HIGH, 1)", x.decades(HIGH, 1), -1);
        due.is("about(3)", x.about(3), 0);
        due.is("is(1)", x.is(1), 193);
        // Without machines all but nights are nothing, and it is a step all the same.
        int seed = 193 + 2 * 9999;
        int nights = 0;
        int drawn = seed;
        for (int i = 0; i < 40; i++) {
            nights += drawn % 5 == 4 ? 1 : 0;
            drawn = (drawn * 433 + 313) % 30557;
        }
        due.is("decades(9999, 40)", x.decades(9999, 40), nights);
        due.is("is(1)", x.is(1), drawn);
        due.is("about(3)", x.about(3), 1);
        due.is("undo()", x.undo(), 0);
        due.is("is(0)", x.is(0), 0);
        due.is("is(1)", x.is(1), 193);
        oneDecade();
    }

    /** One draw each of the five kinds. */
    private static void oneDecade() {
        MachinesDream x = new MachinesDream();
        x.machine(0, 0);
        x.machine(0, 98);
        x.machine(0, 3);
        // X 195: of machine 195 mod 3 = 0 cranked by 195; 1191: machine 0, mod 5 is 1, by 1191 mod 997.
        due.is("decades(1, 1)", x.decades(1, 1), 0);
        due.is("of(0, 3)", x.of(0, 3), 195);
        due.is("of(0, 1)", x.of(0, 1), 1);
        due.is("is(1)", x.is(1), (195 * 433 + 313) % 30557);
        due.is("decades(499, 1)", x.decades(499, 1), 0);
        due.is("of(0, 3)", x.of(0, 3), 195 + 194);
        // 197: machine 2 oiled by 7; 193: machine 1 lifted (it has no roll).
        x.decades(2, 1);
        due.is("of(2, 2)", x.of(2, 2), 7);
        x.decades(0, 1);
        due.is("blank()", x.blank(), 7);
        // 199: a night; then machine 1 has a roll, and 193 lifts it.
        due.is("decades(3, 1)", x.decades(3, 1), 1);
        due.is("blank()", x.blank(), 0);
        x.decades(0, 1);
        due.is("blank()", x.blank(), 2);
        // 205: machine 1; its wear is 99 by now, so nothing.
        due.is("of(1, 1)", x.of(1, 1), 99);
        int before = x.of(1, 3);
        x.decades(6, 1);
        due.is("of(1, 3)", x.of(1, 3), before);
        due.is("about(3)", x.about(3), 7);
        for (int i = 0; i < 166; i++) {
            x.night(60);
        }
        x.night(38);
        due.is("is(0)", x.is(0), 9999);
        due.is("decades(3, 40) at the end", x.decades(3, 40), 9999);
    }

    private static void undo() {
        due.promise("15 undo");
        MachinesDream x = new MachinesDream();
        due.is("undo() of none", x.undo(), -1);
        x.machine(3, 5);
        x.crank(0, 77);
        x.oil(0, 5);
        x.night(1);
        due.yes("lift(0)", x.lift(0));
        x.machine(4, 8);
        x.crank(1, 6);
        x.rule(1, true, 7);
        due.is("about(3)", x.about(3), 5);
        due.is("undo() of a crank", x.undo(), 4);
        due.is("of(1, 3)", x.of(1, 3), 0);
        due.is("of(1, 1)", x.of(1, 1), 8);
        due.is("undo() of a lift", x.undo(), 3);
        due.is("of(0, 4)", x.of(0, 4) > 0 ? 1 : 0, 1);
        x.oil(1, 9);
        x.crank(1, 9);
        x.undo();
        x.undo();
        due.is("undo() of a night", x.undo(), 2);
        due.is("is(0)", x.is(0), 0);
        due.is("is(1)", x.is(1), 193);
        due.is("of(0, 2)", x.of(0, 2), 5);
        due.is("of(0, 4)", x.of(0, 4), 0);
        due.is("undo() of oil", x.undo(), 1);
        due.is("of(0, 2)", x.of(0, 2), 0);
        due.is("undo()", x.undo(), 0);
        due.is("of(0, 3)", x.of(0, 3), 0);
        due.is("of(0, 1)", x.of(0, 1), 5);
        due.is("of(0, 0)", x.of(0, 0), 3);
        due.is("undo()", x.undo(), -1);
        due.is("told(1, true): rules stay", x.told(1, true), 7);
        due.is("about(0)", x.about(0), 2);
        due.is("of(1, 0)", x.of(1, 0), 4);
        machinesToldSince();
        noMoreThanThirty();
    }

    private static void machinesToldSince() {
        MachinesDream x = new MachinesDream();
        x.machine(0, 0);
        for (int i = 0; i < 29; i++) {
            x.oil(0, i % 10);
        }
        x.oil(0, 3);
        x.machine(7, 44);
        // These thirty push the others out: what is left is younger than the second machine.
        for (int i = 0; i < 30; i++) {
            x.crank(1, 1);
        }
        for (int i = 0; i < 30; i++) {
            x.undo();
        }
        due.is("of(1, 3)", x.of(1, 3), 0);
        due.is("of(1, 1)", x.of(1, 1), 44);
        due.is("of(0, 2)", x.of(0, 2), 3);
        x.crank(0, 1);
        x.machine(6, 33);
        x.oil(2, 8);
        x.night(1);
        x.back();
        x.machine(1, 2);
        x.oil(0, 1);
        x.machine(2, 3);
        // As told, whatever was done to it since: its own steps are the younger ones.
        x.crank(1, 5);
        x.night(1);
        x.undo();
        x.undo();
        due.is("undo()", x.undo(), 0);
        due.is("of(1, 0)", x.of(1, 0), 2);
        due.is("of(1, 1)", x.of(1, 1), 3);
        due.is("of(1, 2)", x.of(1, 2), 0);
        due.is("of(1, 3)", x.of(1, 3), 0);
        due.is("of(1, 4)", x.of(1, 4), 0);
    }

    private static void noMoreThanThirty() {
        MachinesDream x = new MachinesDream();
        x.machine(0, 0);
        for (int i = 1; i <= 31; i++) {
            x.crank(0, i);
            due.is("about(3)", x.about(3), Math.min(i, 30));
        }
        for (int i = 29; i >= 0; i--) {
            due.is("undo()", x.undo(), i);
        }
        due.is("undo()", x.undo(), -1);
        due.is("of(0, 3)", x.of(0, 3), 1);
        x.night(40);
        due.is("about(3)", x.about(3), 30);
        for (int i = 0; i < 30; i++) {
            x.undo();
        }
        due.is("is(0)", x.is(0), 10);
    }

    private static void undoOfBook() {
        due.promise("15 undo, the book");
        MachinesDream x = new MachinesDream();
        Due.text(x, "believes 10;");
        x.by(0);
        for (int i = 0; i < 5; i++) {
            x.machine(0, 0);
        }
        x.night(6);
        due.is("book(-1, 0)", x.book(-1, 0), 30);
        due.is("book(0, 0)", x.book(0, 0), 0);
        x.night(1);
        due.is("book(-1, 0)", x.book(-1, 0), 30);
        due.is("book(0, 0)", x.book(0, 0), 1);
        x.undo();
        due.is("book(0, 0) is as ahead", x.book(0, 0), 0);
        due.is("book(29, 1)", x.book(29, 1), 4);
        x.undo();
        due.is("book(-1, 0)", x.book(-1, 0), 25);
        x.decades(3, 40);
        x.undo();
        due.is("book(-1, 0)", x.book(-1, 0), 25);
        due.is("book(24, 0)", x.book(24, 0), 4);
    }

    private static void of() {
        due.promise("16 of");
        MachinesDream x = new MachinesDream();
        x.machine(8, 12);
        for (int what : new int[] {-1, 8, 9, 10, 22, LOW, HIGH}) {
            due.is("of(0, " + what + ")", x.of(0, what), -1);
        }
        due.is("of(1, 0)", x.of(1, 0), -1);
        due.is("of(-1, 0)", x.of(-1, 0), -1);
        due.is("of(LOW, 0)", x.of(LOW, 0), -1);
        due.is("of(HIGH, 0)", x.of(HIGH, 0), -1);
        x.oil(0, 7);
        x.crank(0, 31);
        int[] all = {8, 13, 7, 31, 0, 5, 2, 0};
        for (int what = 0; what < all.length; what++) {
            due.is("of(0, " + what + ")", x.of(0, what), all[what]);
        }
        x.oil(0, 1);
        due.is("of(0, 5): none below 0", x.of(0, 5), 0);
        x.oil(0, 0);
        due.is("of(0, 7)", x.of(0, 7), 1);
        x.rule(3, false, 95);
        x.night(1);
        due.is("of(0, 4)", x.of(0, 4), 3);
        due.is("of(0, 10)", x.of(0, 10), 8);
        due.is("of(0, 11)", x.of(0, 11), 4);
        due.is("of(0, 12)", x.of(0, 12), 1);
        due.is("of(0, 13)", x.of(0, 13), -1);
        // The laws are held within their bounds.
        Due.text(x, "loose 11;believes 999;wears 10;");
        Due.text(x, "loose -1;believes -5;wears -1;");
        Due.text(x, "loose 10;believes 10;wears 9;");
        int[][] held = {{10, 10, 9}, {0, 0, 0}, {10, 10, 9}};
        for (int t = 0; t < 3; t++) {
            x.by(t);
            for (int law = 0; law < 3; law++) {
                due.is("of(0, " + (5 + law) + ") by " + t, x.of(0, 5 + law), held[t][law]);
            }
        }
    }

    private static void told() {
        due.promise("17 told");
        MachinesDream x = new MachinesDream();
        for (int d = 0; d < 10; d++) {
            due.is("told(" + d + ", false)", x.told(d, false), d + 1);
            due.is("told(" + d + ", true)", x.told(d, true), 11 + 11 * d);
        }
        for (int d : new int[] {-1, 10, LOW, HIGH}) {
            due.is("told(" + d + ", false)", x.told(d, false), -1);
            due.is("told(" + d + ", true)", x.told(d, true), -1);
        }
    }

    private static void is() {
        due.promise("18 is");
        MachinesDream x = new MachinesDream();
        for (int what : new int[] {-1, 2, LOW, HIGH}) {
            due.is("is(" + what + ")", x.is(what), -2);
        }
        x.machine(0, 0);
        x.night(1);
        due.is("is(0)", x.is(0), 1);
        // Two draws: one for the only digit, one for what is believed.
        due.is("is(1)", x.is(1), ((193 * 433 + 313) % 30557 * 433 + 313) % 30557);
    }

    private static void book() {
        due.promise("19 book");
        MachinesDream x = new MachinesDream();
        due.is("book(0, 0) of none", x.book(0, 0), -2);
        Due.text(x, "believes if who=1 then 10 else 0 end;");
        x.by(0);
        x.machine(0, 0);
        x.machine(0, 0);
        x.crank(1, 50);
        x.rule(5, false, 3);
        x.night(2);
        due.is("book(-1, 0)", x.book(-1, 0), 2);
        int[][] rows = {{0, 1, 50, 20}, {1, 1, 20, 20}};
        for (int i = 0; i < 2; i++) {
            for (int what = 0; what < 4; what++) {
                due.is("book(" + i + ", " + what + ")", x.book(i, what), rows[i][what]);
            }
        }
        due.is("book(2, 0)", x.book(2, 0), -2);
        due.is("book(-2, 0)", x.book(-2, 0), -2);
        due.is("book(0, -1)", x.book(0, -1), -2);
        due.is("book(0, 4)", x.book(0, 4), -2);
        due.is("book(LOW, 0)", x.book(LOW, 0), -2);
        due.is("book(HIGH, 0)", x.book(HIGH, 0), -2);
        due.is("book(0, HIGH)", x.book(0, HIGH), -2);
        x.night(33);
        due.is("book(-1, 0)", x.book(-1, 0), 30);
        due.is("book(0, 0)", x.book(0, 0), 5);
        due.is("book(29, 0)", x.book(29, 0), 34);
        due.is("book(30, 0)", x.book(30, 0), -2);
    }

    private static void foretold() {
        due.promise("20 foretold");
        MachinesDream x = new MachinesDream();
        due.is("foretold(1, 0, 0) of none", x.foretold(1, 0, 0), -1);
        x.machine(2, 10);
        x.machine(0, 20);
        x.crank(0, 1234);
        x.crank(1, 9080);
        x.oil(0, 9);
        x.oil(1, 4);
        int[][] wrong = {{0, 0, 0}, {61, 0, 0}, {1, 2, 0}, {1, -1, 0}, {1, 0, 3}, {1, 0, -1}, {LOW, 0, 0}, {1, HIGH, 0}};
        for (int[] w : wrong) {
            due.is("foretold(" + w[0] + ", " + w[1] + ", " + w[2] + ")", x.foretold(w[0], w[1], w[2]), -1);
        }
        int[] nights = {1, 2, 7, 60};
        int[][] ahead = new int[4][6];
        for (int k = 0; k < 4; k++) {
            for (int c = 0; c < 6; c++) {
                ahead[k][c] = x.foretold(nights[k], c / 3, c % 3);
            }
        }
        due.is("is(0)", x.is(0), 0);
        due.is("is(1)", x.is(1), 193);
        due.is("about(3)", x.about(3), 4);
        due.is("book(-1, 0)", x.book(-1, 0), 0);
        int passed = 0;
        for (int k = 0; k < 4; k++) {
            x.night(nights[k] - passed);
            passed = nights[k];
            int[] whats = {3, 1, 4};
            for (int c = 0; c < 6; c++) {
                due.is("foretold(" + passed + ", " + c / 3 + ", " + c % 3 + ")", ahead[k][c], x.of(c / 3, whats[c % 3]));
            }
        }
        for (int i = 0; i < 165; i++) {
            x.night(60);
        }
        x.night(37);
        due.is("is(0)", x.is(0), 9997);
        int sum = x.foretold(60, 1, 0);
        int roll = x.foretold(2, 1, 2);
        due.is("foretold(3, 1, 2): those that can pass", x.foretold(3, 1, 2), roll);
        x.night(2);
        due.is("foretold(60, 1, 0): those that can pass", sum, x.of(1, 3));
        due.is("foretold(5, 1, 0) at the end", x.foretold(5, 1, 0), x.of(1, 3));
        due.is("foretold(5, 1, 2) at the end", x.foretold(5, 1, 2), x.of(1, 4));
        due.is("foretold(0, 1, 0) at the end", x.foretold(0, 1, 0), -1);
    }
}
