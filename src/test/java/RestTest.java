/** Promises 34 to 48: pairs, stock, whose law, sums, the book by machine, images, about. */
public final class RestTest {
    private static final int LOW = Integer.MIN_VALUE;
    private static final int HIGH = Integer.MAX_VALUE;
    private static final Due due = new Due();

    public static void main(String[] args) {
        likes();
        paired();
        blocks();
        needs();
        stock();
        looser();
        whose();
        forgiven();
        snow();
        worn();
        blank();
        ledger();
        image();
        imageOfAll();
        about();
        due.finish("RestTest");
    }

    private static void likes() {
        due.promise("34 likes");
        MachinesDream x = new MachinesDream();
        int[][] bad = {{-1, 0, 0}, {5, 0, 0}, {0, -1, 0}, {0, 5, 0}, {0, 0, -1}, {0, 0, 10}, {LOW, 0, 0}, {0, HIGH, 0}, {0, 0, HIGH}};
        for (int[] b : bad) {
            due.no("likes(true, " + b[0] + ", " + b[1] + ", " + b[2] + ")", x.likes(true, b[0], b[1], b[2]));
            due.no("likes(false, " + b[0] + ", " + b[1] + ", " + b[2] + ")", x.likes(false, b[0], b[1], b[2]));
        }
        for (int clerk = 0; clerk < 5; clerk++) {
            due.is("paired(" + clerk + ")", x.paired(clerk), clerk);
        }
        due.yes("likes(true, 4, 4, 9)", x.likes(true, 4, 4, 9));
        due.yes("likes(false, 4, 4, 9)", x.likes(false, 4, 4, 9));
        due.yes("likes(true, 0, 0, 0)", x.likes(true, 0, 0, 0));
        due.is("about(0): machines need not be there", x.about(0), 0);
    }

    private static void paired(MachinesDream x, int... machines) {
        for (int clerk = 0; clerk < 5; clerk++) {
            due.is("paired(" + clerk + ")", x.paired(clerk), machines[clerk]);
        }
    }

    private static void ranks(MachinesDream x, boolean clerk, int who, int... ranks) {
        for (int whom = 0; whom < 5; whom++) {
            x.likes(clerk, who, whom, ranks[whom]);
        }
    }

    private static void paired() {
        due.promise("35 paired");
        MachinesDream x = new MachinesDream();
        for (int bad : new int[] {-1, 5, LOW, HIGH}) {
            due.is("paired(" + bad + ")", x.paired(bad), -1);
        }
        paired(x, 0, 1, 2, 3, 4);
        for (int m = 0; m < 5; m++) {
            ranks(x, false, m, 4, 3, 2, 1, 0);
        }
        // All ask machine 0, and each machine likes the highest clerk best.
        paired(x, 4, 3, 2, 1, 0);
        x.likes(false, 0, 2, 0);
        // Machine 0 likes clerks 2 and 4 alike: the lower number better.
        paired(x, 4, 3, 0, 2, 1);
        for (int c = 0; c < 5; c++) {
            ranks(x, true, c, 9, 9, 9, 9, c);
        }
        paired(x, 3, 2, 0, 1, 4);
        // Those who ask get the best they can: clerks' wishes unlike machines' own.
        MachinesDream y = new MachinesDream();
        for (int k = 0; k < 5; k++) {
            int[] clerk = new int[5];
            int[] machine = new int[5];
            for (int j = 0; j < 5; j++) {
                clerk[j] = (j + k) % 5;
                machine[j] = (j + k + 4) % 5;
            }
            ranks(y, true, k, clerk);
            ranks(y, false, k, machine);
        }
        paired(y, 0, 4, 3, 2, 1);
    }

    private static void blocks() {
        due.promise("36 blocks");
        MachinesDream x = new MachinesDream();
        int[][] bad = {{-1, 0}, {5, 0}, {0, -1}, {0, 5}, {LOW, 0}, {0, HIGH}};
        for (int[] b : bad) {
            due.is("blocks(" + b[0] + ", " + b[1] + ")", x.blocks(b[0], b[1]), -1);
        }
        // All like the lower number better: clerk 3 would have machine 1, but that one has clerk 1.
        for (int c = 0; c < 5; c++) {
            for (int m = 0; m < 5; m++) {
                due.is("blocks(" + c + ", " + m + ")", x.blocks(c, m), 0);
            }
        }
        x.likes(false, 1, 1, 1);
        due.is("blocks(3, 1)", x.blocks(3, 1), 1);
        due.is("blocks(0, 1): 0 has what it likes better", x.blocks(0, 1), 0);
        x.likes(true, 3, 1, 1);
        due.is("blocks(3, 1)", x.blocks(3, 1), 0);
        x.likes(true, 3, 3, 1);
        due.is("blocks(3, 1): of like ones the lower number", x.blocks(3, 1), 1);
        x.likes(false, 1, 3, 1);
        due.is("blocks(3, 1): of like ones the lower number", x.blocks(3, 1), 0);
        x.likes(true, 0, 0, 1);
        due.is("blocks(0, 1)", x.blocks(0, 1), 1);
        due.is("blocks(0, 2)", x.blocks(0, 2), 1);
        due.is("blocks(0, 0)", x.blocks(0, 0), 0);
    }

    private static void needs() {
        due.promise("37 needs");
        MachinesDream x = new MachinesDream();
        int[][] bad = {{-1, 0}, {8, 0}, {0, -1}, {0, 100}, {LOW, 0}, {HIGH, 0}, {0, HIGH}};
        for (int[] b : bad) {
            due.no("needs(" + b[0] + ", " + b[1] + ")", x.needs(b[0], b[1]));
        }
        due.yes("needs(0, 99)", x.needs(0, 99));
        due.yes("needs(7, 0)", x.needs(7, 0));
        due.yes("needs(7, 99)", x.needs(7, 99));
        due.is("stock(0, 1, 0)", x.stock(0, 1, 0), 99);
        due.is("stock(0, 1, 7)", x.stock(0, 1, 7), 99);
        due.yes("needs(7, 3): told anew", x.needs(7, 3));
        due.is("stock(0, 1, 7)", x.stock(0, 1, 7), 3);
    }

    private static void stock(MachinesDream x, int once, int kept, int cost, int... bought) {
        due.is("stock(" + once + ", " + kept + ", -1)", x.stock(once, kept, -1), cost);
        for (int i = 0; i < 8; i++) {
            due.is("stock(" + once + ", " + kept + ", " + i + ")", x.stock(once, kept, i), bought[i]);
        }
    }

    private static void stock() {
        due.promise("38 stock");
        MachinesDream x = new MachinesDream();
        int[][] bad = {{-1, 0, 0}, {1000, 0, 0}, {0, -1, 0}, {0, 100, 0}, {0, 0, -2}, {0, 0, 8}, {LOW, 0, 0}, {0, HIGH, 0}, {0, 0, LOW}};
        for (int[] b : bad) {
            due.is("stock(" + b[0] + ", " + b[1] + ", " + b[2] + ")", x.stock(b[0], b[1], b[2]), -1);
        }
        stock(x, 999, 99, 0, 0, 0, 0, 0, 0, 0, 0, 0);
        for (int i = 0; i < 8; i++) {
            x.needs(i, i == 0 ? 0 : i);
        }
        stock(x, 0, 0, 0, 28, 0, 0, 0, 0, 0, 0, 0);
        stock(x, 7, 0, 7, 28, 0, 0, 0, 0, 0, 0, 0);
        stock(x, 0, 1, 0, 0, 1, 2, 3, 4, 5, 6, 7);
        stock(x, 999, 0, 999, 28, 0, 0, 0, 0, 0, 0, 0);
        stock(x, 999, 1, 999 + 2 + 6 + 12 + 20 + 30 + 42, 0, 28, 0, 0, 0, 0, 0, 0);
        // By 3: 2 is worth keeping a night, and 3 is just as dear as anew: the most for the earlier one.
        stock(x, 3, 1, 3 + 2 + 3 + 4 + 3 + 3 + 3 - 1, 0, 3, 0, 3, 4, 5, 6, 7);
        MachinesDream y = new MachinesDream();
        y.needs(0, 3);
        y.needs(1, 3);
        y.needs(2, 3);
        // Like costs: 0 and 1 together rather than 1 and 2 together.
        stock(y, 3, 1, 9, 6, 0, 3, 0, 0, 0, 0, 0);
        y.needs(5, 1);
        // 1 kept for three nights is as dear as anew: more for night 2.
        stock(y, 3, 1, 12, 6, 0, 4, 0, 0, 0, 0, 0);
        stock(y, 9, 3, 9 + 9 + 9 + 9, 6, 0, 4, 0, 0, 0, 0, 0);
        stock(y, 8, 3, 8 + 8 + 8 + 8, 3, 3, 3, 0, 0, 1, 0, 0);
        MachinesDream z = new MachinesDream();
        for (int i = 0; i < 8; i++) {
            z.needs(i, 99);
        }
        stock(z, 999, 99, 8 * 999, 99, 99, 99, 99, 99, 99, 99, 99);
        stock(z, 99, 1, 8 * 99, 198, 0, 198, 0, 198, 0, 198, 0);
        stock(z, 999, 1, 999 * 2 + 99 * 2 * (1 + 2 + 3), 396, 0, 0, 0, 396, 0, 0, 0);
    }

    private static void looser() {
        due.promise("39 looser");
        MachinesDream x = new MachinesDream();
        due.is("looser(0, 0): none is told", x.looser(0, 0), -2);
        x.machine(0, 0);
        int[][] bad = {{1, 0}, {-2, 0}, {0, -1}, {0, 11}, {LOW, 0}, {HIGH, 0}, {0, LOW}, {0, HIGH}};
        for (int[] b : bad) {
            due.is("looser(" + b[0] + ", " + b[1] + ")", x.looser(b[0], b[1]), -2);
        }
        due.is("about(7)", x.about(7), 0);
        for (int i = 1; i <= 8; i++) {
            due.is("looser(0, " + i + ")", x.looser(0, i == 1 ? 0 : 10), i);
        }
        due.is("looser(0, 1), the ninth", x.looser(0, 1), -2);
        due.is("about(7)", x.about(7), 8);
        due.is("looser(-1, 0)", x.looser(-1, 0), 0);
        due.is("about(7)", x.about(7), 0);
        due.is("looser(0, 5)", x.looser(0, 5), 1);
    }

    private static void whose() {
        due.promise("40 whose");
        MachinesDream x = new MachinesDream();
        x.machine(3, 0);
        x.machine(0, 0);
        due.is("whose() without texts", x.whose(), 0);
        Due.text(x, "loose oil;");
        Due.text(x, "loose if who=0 then 2 else 99 end;");
        Due.text(x, "believes 1;");
        due.is("whose() without readings: all", x.whose(), 7);
        x.oil(0, 2);
        x.looser(0, 2);
        due.is("whose()", x.whose(), 3);
        x.looser(1, 10);
        due.is("whose(): held to 10", x.whose(), 2);
        x.looser(-1, 0);
        x.looser(0, 1);
        due.is("whose(): without loose as without a text", x.whose(), 4);
        x.oil(0, 1);
        due.is("whose(): as now", x.whose(), 1);
        x.by(1);
        due.is("whose(): whoever rules", x.whose(), 1);
        x.looser(0, 2);
        due.is("whose()", x.whose(), 0);
    }

    private static void forgiven() {
        due.promise("41 forgiven");
        MachinesDream x = new MachinesDream();
        for (int bad : new int[] {-1, 10000, LOW, HIGH}) {
            due.is("forgiven(" + bad + ")", x.forgiven(bad), -1);
        }
        due.is("forgiven(0) of none", x.forgiven(0), 0);
        int[] sums = {500, 300, 300, 200, 9000};
        for (int m = 0; m < 5; m++) {
            x.machine(0, 0);
            x.crank(m, sums[m]);
        }
        due.is("forgiven(0)", x.forgiven(0), 0);
        due.is("forgiven(199)", x.forgiven(199), 0);
        due.is("forgiven(200)", x.forgiven(200), 8);
        due.is("forgiven(499): the least together", x.forgiven(499), 8);
        due.is("forgiven(500): two, the lowest set", x.forgiven(500), 8 + 2);
        due.is("forgiven(800)", x.forgiven(800), 8 + 4 + 2);
        due.is("forgiven(1299)", x.forgiven(1299), 8 + 4 + 2);
        due.is("forgiven(1300)", x.forgiven(1300), 15);
        due.is("forgiven(9999)", x.forgiven(9999), 15);
        x.crank(4, 1000);
        due.is("forgiven(0): a sum of 0", x.forgiven(0), 16);
        due.is("forgiven(9999)", x.forgiven(9999), 31);
    }

    private static void snow() {
        due.promise("42 snow");
        MachinesDream x = new MachinesDream();
        due.is("snow() of none", x.snow(), 0);
        x.machine(0, 0);
        due.is("snow(): 0 has one", x.snow(), 1);
        x.crank(0, 1000);
        due.is("snow()", x.snow(), 3);
        x.machine(0, 0);
        x.crank(1, 20);
        due.is("snow()", x.snow(), 4);
        x.crank(0, 8111);
        due.is("snow()", x.snow(), 1);
        x.crank(0, 994);
        due.is("snow()", x.snow(), 2);
        x.crank(0, 1);
        due.is("snow()", x.snow(), 2);
    }

    private static void worn() {
        due.promise("43 worn");
        MachinesDream x = new MachinesDream();
        due.is("worn() of none", x.worn(), -1);
        x.machine(0, 0);
        due.is("worn()", x.worn(), 0);
        x.machine(0, 5);
        x.machine(0, 5);
        due.is("worn(): of like ones the lowest", x.worn(), 1);
        x.crank(2, 0);
        due.is("worn()", x.worn(), 2);
        x.machine(0, 99);
        due.is("worn()", x.worn(), 3);
    }

    private static void blank() {
        due.promise("44 blank");
        MachinesDream x = new MachinesDream();
        due.is("blank() of none", x.blank(), 0);
        x.machine(0, 0);
        x.machine(0, 0);
        x.crank(1, 5);
        due.is("blank()", x.blank(), 3);
        x.rule(0, false, 0);
        x.night(1);
        due.is("blank(): a roll of no digits", x.blank(), 1);
        x.machine(0, 0);
        due.is("blank()", x.blank(), 5);
        x.lift(1);
        due.is("blank()", x.blank(), 7);
    }

    private static void ledger() {
        due.promise("45 ledger");
        MachinesDream x = new MachinesDream();
        due.is("ledger(-1)", x.ledger(-1), 0);
        due.is("ledger(0) of none", x.ledger(0), -2);
        Due.text(x, "believes if who=0 then 0 else if who=1 then 10 else (night-night/2*2)*10 end end;");
        x.by(0);
        x.machine(0, 0);
        x.machine(0, 0);
        x.machine(0, 0);
        for (int bad : new int[] {-2, 3, 5, LOW, HIGH}) {
            due.is("ledger(" + bad + ")", x.ledger(bad), -2);
        }
        x.night(5);
        due.is("ledger(-1)", x.ledger(-1), 7);
        due.is("ledger(0)", x.ledger(0), 0);
        due.is("ledger(1)", x.ledger(1), 5);
        due.is("ledger(2)", x.ledger(2), 2);
        x.night(55);
        due.is("ledger(-1): the latest 30", x.ledger(-1), 30);
        due.is("ledger(1)", x.ledger(1), 20);
        due.is("ledger(2)", x.ledger(2), 10);
    }

    private static void image() {
        due.promise("46 image, 47 back");
        MachinesDream x = new MachinesDream();
        x.machine(1, 1);
        x.night(3);
        due.is("image()", x.image(), 3);
        x.night(2);
        due.is("back()", x.back(), 3);
        x.night(4);
        due.is("back(): it stays", x.back(), 3);
        x.night(1);
        due.is("image()", x.image(), 4);
        x.night(1);
        due.is("back()", x.back(), 4);
        due.is("about(3)", x.about(3), 4);
        due.is("undo()", x.undo(), 3);
        due.is("is(0)", x.is(0), 3);
        due.is("back()", x.back(), 4);
        due.is("about(3): steps are in it", x.about(3), 4);
        due.is("undo()", x.undo(), 3);
        // The tape stays as it is, and so does the latest fault.
        Due.text(x, "foo");
        x.feed(1, 2, 3, 4, 5);
        x.back();
        due.is("about(8)", x.about(8), 20);
        due.is("fault(0)", x.fault(0), 1);
        x.image();
        x.end(5);
        x.back();
        due.is("about(8)", x.about(8), 5);
    }

    /** Each thing told or done is as in the image again. */
    private static void imageOfAll() {
        due.promise("47 back, all");
        MachinesDream x = new MachinesDream();
        build(x, 0);
        int[] kept = probe(x);
        x.image();
        for (int i = 0; i < 30; i++) {
            x.decades(i, 5);
        }
        build(x, 1);
        x.back();
        int[] again = probe(x);
        for (int i = 0; i < kept.length; i++) {
            due.is("what is asked at " + i, again[i], kept[i]);
        }
        // What was done behind the image is not in it.
        x.day(-1);
        x.looser(-1, 0);
        x.looser(1, 9);
        x.looser(1, 8);
        x.put(-1);
        x.second(-1);
        x.by(-1);
        x.back();
        again = probe(x);
        for (int i = 0; i < kept.length; i++) {
            due.is("what is asked at " + i, again[i], kept[i]);
        }
        build(x, 1);
        x.back();
        for (int i = x.about(3); i > 0; i--) {
            x.undo();
        }
        due.is("is(0)", x.is(0), 0);
        due.is("of(0, 1)", x.of(0, 1), 10);
        due.is("of(0, 3)", x.of(0, 3), 0);
    }

    private static void build(MachinesDream x, int k) {
        x.machine(2 + k, 10 + k);
        x.machine(5, 3 + k);
        Due.text(x, "loose " + (4 + k) + ";believes " + (6 - k) + ";wears 1;");
        x.by(k);
        x.rule(3, false, 40 + k);
        x.rule(3, true, 50 + k);
        x.crank(0, 1234 + k);
        x.crank(1, 777);
        x.oil(0, 5 - k);
        x.night(3);
        Due.strips(x, k == 0 ? "123" : "99", k == 0 ? "13" : "9");
        x.day(k == 0 ? 123 : 99);
        x.looser(0, 4 + k);
        x.likes(true, 0, 0, 5 - k);
        x.likes(false, 1, 0, 5 * k);
        x.likes(false, 1, 1, 1 - k);
        x.needs(0, 3 + k);
        x.needs(4, 5 + k);
    }

    private static int[] probe(MachinesDream x) {
        int[] row = new int[120];
        int n = 0;
        for (int i = 0; i < 9; i++) {
            row[n++] = i == 8 ? 0 : x.about(i);
        }
        for (int m = 0; m < 4; m++) {
            for (int what = 0; what < 15; what++) {
                row[n++] = x.of(m, what);
            }
        }
        int[] more = {x.is(0), x.is(1), x.book(-1, 0), x.book(0, 3), x.ledger(0), x.foretold(5, 1, 0), x.told(3, false),
            x.told(3, true), (int) x.may(123), x.fits(), x.likeliest(0), x.add(-1), x.common(-1), x.apart(),
            x.grows(33, 3), x.stays(false), x.paired(0), x.paired(1), x.blocks(0, 1), x.stock(5, 1, -1),
            x.stock(5, 1, 0), x.whose(), x.forgiven(9999), x.snow(), x.worn(), x.blank()};
        for (int v : more) {
            row[n++] = v;
        }
        return row;
    }

    private static void about() {
        due.promise("48 about");
        MachinesDream x = new MachinesDream();
        for (int bad : new int[] {-1, 9, LOW, HIGH}) {
            due.is("about(" + bad + ")", x.about(bad), -2);
        }
        x.machine(0, 0);
        x.machine(0, 0);
        Due.text(x, "");
        Due.text(x, "");
        Due.text(x, "");
        x.by(2);
        x.oil(0, 1);
        x.night(3);
        Due.strips(x, "12345", "123456");
        for (int i = 0; i < 7; i++) {
            x.day(i);
        }
        for (int i = 0; i < 8; i++) {
            x.looser(1, i);
        }
        x.feed(0, 0, 0, 0, 0);
        x.end(9);
        int[] all = {2, 3, 2, 4, 5, 6, 7, 8, 9};
        for (int i = 0; i < all.length; i++) {
            due.is("about(" + i + ")", x.about(i), all[i]);
        }
    }
}
