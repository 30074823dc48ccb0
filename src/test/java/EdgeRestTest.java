/** The boundary cases of IV, of AN IMAGE and of promises 34 to 48: each sentence has a test of its own. */
public final class EdgeRestTest {
    private static final int LOW = Due.LOW;
    private static final int HIGH = Due.HIGH;
    private static final Due due = new Due();

    public static void main(String[] args) {
        likesRanges();
        ranksAtFirst();
        ranksAlike();
        ranksOfEachOnItsOwn();
        machinesThereOrNot();
        pairedRange();
        clerksAsk();
        machinesKeepWhomTheyLikeBest();
        tillAllAre();
        blocksRanges();
        blocksEachRather();
        blocksAlike();
        needsRanges();
        needsOf0();
        stockRanges();
        stockOnceHoweverMuch();
        stockKeptToTheNext();
        stockOfLikeOnes();
        stockUpToTheLastNight();
        stockMost();
        looserRanges();
        looserUpToEight();
        looserNone();
        whoseWithoutAny();
        whoseBits();
        whoseHeld();
        whoseAsNow();
        whoseWithoutLoose();
        forgivenRange();
        forgivenLimitOrLess();
        forgivenTheMost();
        forgivenOfLikeOnes();
        forgivenSumsOf0();
        snowOf0();
        snowOfAll();
        wornNone();
        wornOfLikeOnes();
        blankBits();
        ledgerRange();
        ledgerOfTheLatestThirty();
        imageAndBack();
        imageStays();
        imageHasAll();
        imageHasSteps();
        imageLeavesTheTape();
        imageLeavesTheFault();
        aboutRange();
        aboutEach();
        due.finish("EdgeRestTest");
    }

    private static void ranks(MachinesDream x, boolean clerk, int who, int... ranks) {
        for (int whom = 0; whom < 5; whom++) {
            x.likes(clerk, who, whom, ranks[whom]);
        }
    }

    private static void pairs(String call, MachinesDream x, String machines) {
        StringBuilder got = new StringBuilder();
        for (int clerk = 0; clerk < 5; clerk++) {
            got.append(x.paired(clerk));
        }
        due.same(call, got.toString(), machines);
    }

    private static void likesRanges() {
        due.promise("34: 0 .. 4, 0 .. 4, RANKS 0 .. 9; false for others");
        for (int side = 0; side < 2; side++) {
            boolean clerk = side == 0;
            MachinesDream x = new MachinesDream();
            String ahead = Due.seen(x);
            for (int bad : new int[] {-1, 5, LOW, HIGH}) {
                due.no("who " + bad, x.likes(clerk, bad, 0, 9));
                due.no("whom " + bad, x.likes(clerk, 0, bad, 9));
            }
            for (int bad : new int[] {-1, 10, LOW, HIGH}) {
                due.no("rank " + bad, x.likes(clerk, 0, 0, bad));
            }
            due.same("nothing is told", Due.seen(x), ahead);
            due.yes("0, 0, 9", x.likes(clerk, 0, 0, 9));
            due.yes("4, 4, 0", x.likes(clerk, 4, 4, 0));
            due.yes("4, 0, 9", x.likes(clerk, 4, 0, 9));
            due.yes("0, 4, 0", x.likes(clerk, 0, 4, 0));
        }
    }

    private static void ranksAtFirst() {
        due.promise("IV: at first 0 each; of like ones the lower number");
        MachinesDream x = new MachinesDream();
        pairs("at first", x, "01234");
        for (int clerk = 0; clerk < 5; clerk++) {
            for (int machine = 0; machine < 5; machine++) {
                due.is("blocks(" + clerk + ", " + machine + ")", x.blocks(clerk, machine), 0);
            }
        }
        x.likes(true, 4, 0, 0);
        pairs("0 told", x, "01234");
        x.likes(false, 0, 0, 1);
        pairs("machine 0 likes clerk 0 least", x, "10234");
    }

    private static void ranksAlike() {
        due.promise("IV: 0 best; of like ones it likes the lower number better");
        MachinesDream x = new MachinesDream();
        ranks(x, true, 0, 5, 4, 4, 5, 9);
        due.is("1 and 2 alike", x.paired(0), 1);
        x.likes(true, 0, 2, 3);
        due.is("2 better", x.paired(0), 2);
        x.likes(true, 0, 1, 3);
        due.is("alike again", x.paired(0), 1);
        MachinesDream y = new MachinesDream();
        ranks(y, false, 0, 9, 9, 8, 8, 9);
        due.is("machine 0 likes clerks 2 and 3 alike", y.paired(2), 0);
        y.likes(false, 0, 3, 7);
        due.is("3 better", y.paired(3), 0);
    }

    private static void ranksOfEachOnItsOwn() {
        due.promise("IV: of a CLERK or a MACHINE how it likes each of the others");
        for (int who = 0; who < 5; who++) {
            for (int whom = 0; whom < 5; whom++) {
                MachinesDream x = new MachinesDream();
                for (int other = 0; other < 5; other++) {
                    x.likes(true, who, other, 9);
                }
                x.likes(true, who, whom, 8);
                // Each machine likes this clerk best.
                for (int machine = 0; machine < 5; machine++) {
                    ranks(x, false, machine, 1, 1, 1, 1, 1);
                    x.likes(false, machine, who, 0);
                }
                due.is("clerk " + who + " has " + whom, x.paired(who), whom);
            }
        }
    }

    private static void machinesThereOrNot() {
        due.promise("IV: MACHINES 0 .. 4 (there or not)");
        MachinesDream x = new MachinesDream();
        due.is("about(0)", x.about(0), 0);
        due.yes("likes(true, 0, 4, 0)", x.likes(true, 0, 4, 0));
        ranks(x, true, 0, 1, 1, 1, 1, 0);
        due.is("paired(0)", x.paired(0), 4);
        due.is("blocks(0, 4)", x.blocks(0, 4), 1);
        x.machine(0, 0);
        due.is("paired(0)", x.paired(0), 4);
    }

    private static void pairedRange() {
        due.promise("35: CLERKS 0 .. 4, NONE for others");
        MachinesDream x = new MachinesDream();
        for (int clerk : new int[] {-1, 5, LOW, HIGH}) {
            due.is("paired(" + clerk + ")", x.paired(clerk), -1);
        }
        due.is("paired(0)", x.paired(0), 0);
        due.is("paired(4)", x.paired(4), 4);
    }

    private static void clerksAsk() {
        due.promise("35: CLERKS ask MACHINES in the order in which they like them");
        MachinesDream x = new MachinesDream();
        // Each side would have the other's pairs unlike: those who ask get theirs.
        ranks(x, true, 0, 0, 1, 9, 9, 9);
        ranks(x, true, 1, 1, 0, 9, 9, 9);
        ranks(x, false, 0, 1, 0, 9, 9, 9);
        ranks(x, false, 1, 0, 1, 9, 9, 9);
        pairs("clerks' best", x, "01234");
        due.is("nobody would rather", x.blocks(0, 1), 0);
        ranks(x, true, 0, 1, 0, 9, 9, 9);
        ranks(x, true, 1, 0, 1, 9, 9, 9);
        pairs("clerks' best", x, "10234");
    }

    private static void machinesKeepWhomTheyLikeBest() {
        due.promise("35: a MACHINE keeps whom it likes best");
        MachinesDream x = new MachinesDream();
        for (int clerk = 0; clerk < 5; clerk++) {
            ranks(x, true, clerk, 0, 1, 2, 3, 4);
        }
        int[][] orders = {{0, 1, 2, 3, 4}, {4, 3, 2, 1, 0}, {2, 0, 4, 1, 3}};
        // The clerk at a place of the machines' order has the machine of that number.
        String[] want = {"01234", "43210", "13042"};
        for (int k = 0; k < 3; k++) {
            for (int machine = 0; machine < 5; machine++) {
                for (int place = 0; place < 5; place++) {
                    x.likes(false, machine, orders[k][place], place);
                }
            }
            pairs("order " + k, x, want[k]);
        }
    }

    private static void tillAllAre() {
        due.promise("35: till all are: as many askings as there can be");
        MachinesDream x = new MachinesDream();
        for (int clerk = 0; clerk < 5; clerk++) {
            int[] row = new int[5];
            for (int k = 0; k < 5; k++) {
                row[clerk < 4 ? (clerk + k) % 4 : k] = k;
            }
            row[4] = 9;
            ranks(x, true, clerk, row);
        }
        for (int machine = 0; machine < 5; machine++) {
            int[] row = new int[5];
            for (int k = 0; k < 5; k++) {
                row[(machine + 1 + k) % 5] = k;
            }
            ranks(x, false, machine, row);
        }
        boolean[] taken = new boolean[5];
        for (int clerk = 0; clerk < 5; clerk++) {
            int machine = x.paired(clerk);
            due.is("a machine for " + clerk, machine >= 0 && machine < 5 ? 1 : 0, 1);
            due.no("had by another", taken[machine]);
            taken[machine] = true;
        }
    }

    private static void blocksRanges() {
        due.promise("36: 0 .. 4, 0 .. 4, NONE for others");
        MachinesDream x = new MachinesDream();
        for (int bad : new int[] {-1, 5, LOW, HIGH}) {
            due.is("blocks(" + bad + ", 0)", x.blocks(bad, 0), -1);
            due.is("blocks(0, " + bad + ")", x.blocks(0, bad), -1);
        }
        due.is("blocks(0, 0)", x.blocks(0, 0), 0);
        due.is("blocks(4, 4)", x.blocks(4, 4), 0);
        due.is("blocks(4, 0)", x.blocks(4, 0), 0);
        due.is("blocks(0, 4)", x.blocks(0, 4), 0);
    }

    private static void blocksEachRather() {
        due.promise("36: each likes the other better than whom it has");
        for (int sides = 0; sides < 4; sides++) {
            MachinesDream x = new MachinesDream();
            x.likes(true, 4, 4, (sides & 1) == 1 ? 5 : 0);
            x.likes(true, 4, 3, 4);
            x.likes(false, 3, 3, (sides & 2) == 2 ? 5 : 0);
            x.likes(false, 3, 4, 4);
            due.is("by sides " + sides, x.blocks(4, 3), sides == 3 ? 1 : 0);
            due.is("with its own", x.blocks(4, 4), 0);
        }
    }

    private static void blocksAlike() {
        due.promise("36: RANKS alike: the lower number better");
        MachinesDream x = new MachinesDream();
        // Clerk 3 likes 1 better than 3 by its number; machine 1 likes clerk 1 better than 3 by its number.
        due.is("both alike", x.blocks(3, 1), 0);
        x.likes(false, 1, 1, 1);
        due.is("machine 1 rather", x.blocks(3, 1), 1);
        x.likes(false, 1, 3, 1);
        due.is("alike at 1", x.blocks(3, 1), 0);
        x.likes(false, 1, 3, 0);
        x.likes(true, 3, 1, 1);
        due.is("clerk 3 not", x.blocks(3, 1), 0);
        x.likes(true, 3, 3, 1);
        due.is("clerk 3 alike at 1", x.blocks(3, 1), 1);
        due.is("clerk 1, machine 3: 1 is the lower one", x.blocks(1, 3), 0);
        x.likes(true, 1, 1, 9);
        due.is("clerk 1 rather, machine 3 by the number", x.blocks(1, 3), 1);
    }

    private static void needsRanges() {
        due.promise("37: NIGHTS 0 .. 7, OIL 0 .. 99; false for others");
        MachinesDream x = new MachinesDream();
        String ahead = Due.seen(x);
        for (int bad : new int[] {-1, 8, LOW, HIGH}) {
            due.no("needs(" + bad + ", 1)", x.needs(bad, 1));
        }
        for (int bad : new int[] {-1, 100, LOW, HIGH}) {
            due.no("needs(0, " + bad + ")", x.needs(0, bad));
        }
        due.same("nothing is told", Due.seen(x), ahead);
        due.yes("needs(0, 99)", x.needs(0, 99));
        due.yes("needs(7, 1)", x.needs(7, 1));
        due.is("for NIGHT 0", x.stock(1, 1, 0), 99);
        due.is("for NIGHT 7", x.stock(1, 1, 7), 1);
        due.yes("needs(0, 0)", x.needs(0, 0));
        due.is("for NIGHT 0", x.stock(1, 1, 0), 0);
        due.is("COST", x.stock(1, 1, -1), 1);
    }

    private static void stocked(String call, MachinesDream x, int once, int kept, int cost, String bought) {
        due.is(call + ": COST", x.stock(once, kept, -1), cost);
        StringBuilder got = new StringBuilder();
        for (int night = 0; night < 8; night++) {
            got.append(night == 0 ? "" : " ").append(x.stock(once, kept, night));
        }
        due.same(call, got.toString(), bought);
    }

    private static MachinesDream needing(int... needs) {
        MachinesDream x = new MachinesDream();
        for (int night = 0; night < needs.length; night++) {
            x.needs(night, needs[night]);
        }
        return x;
    }

    private static void needsOf0() {
        due.promise("38: NEEDS of 0 (at first 0)");
        stocked("at first", new MachinesDream(), 999, 99, 0, "0 0 0 0 0 0 0 0");
        stocked("0 ahead, dear to keep", needing(0, 0, 5), 3, 1, 3, "0 0 5 0 0 0 0 0");
        stocked("0 ahead, kept for nothing", needing(0, 0, 5), 3, 0, 3, "5 0 0 0 0 0 0 0");
        stocked("0 between", needing(5, 0, 1), 3, 1, 5, "6 0 0 0 0 0 0 0");
        stocked("0 between, as dear", needing(5, 0, 1), 2, 1, 4, "6 0 0 0 0 0 0 0");
        stocked("0 between, dearer", needing(5, 0, 1), 1, 1, 2, "5 0 1 0 0 0 0 0");
        stocked("all for nothing", needing(1, 0, 2, 0, 3), 0, 0, 0, "6 0 0 0 0 0 0 0");
        stocked("once for nothing", needing(1, 0, 2, 0, 3), 0, 1, 0, "1 0 2 0 3 0 0 0");
    }

    private static void stockRanges() {
        due.promise("38: once 0 .. 999, kept 0 .. 99, NIGHT i 0 .. 7 or NONE; NONE for others");
        MachinesDream x = needing(9, 8, 7, 6, 5, 4, 3, 2);
        for (int bad : new int[] {-1, 1000, LOW, HIGH}) {
            due.is("once " + bad, x.stock(bad, 1, 0), -1);
        }
        for (int bad : new int[] {-1, 100, LOW, HIGH}) {
            due.is("kept " + bad, x.stock(1, bad, 0), -1);
        }
        for (int bad : new int[] {-2, 8, LOW, HIGH}) {
            due.is("i " + bad, x.stock(1, 1, bad), -1);
        }
        due.is("stock(0, 99, 0)", x.stock(0, 99, 0), 9);
        due.is("stock(0, 99, 7)", x.stock(0, 99, 7), 2);
        due.is("stock(999, 0, 0)", x.stock(999, 0, 0), 44);
        due.is("stock(999, 0, -1)", x.stock(999, 0, -1), 999);
        due.is("stock(0, 0, -1)", x.stock(0, 0, -1), 0);
    }

    private static void stockOnceHoweverMuch() {
        due.promise("38: to buy for a NIGHT costs once, however much");
        stocked("one", needing(1), 999, 99, 999, "1 0 0 0 0 0 0 0");
        stocked("99", needing(99), 999, 99, 999, "99 0 0 0 0 0 0 0");
        stocked("two of 99", needing(99, 99), 999, 0, 999, "198 0 0 0 0 0 0 0");
        stocked("two of 99, dear to keep", needing(99, 99), 999, 99, 1998, "99 99 0 0 0 0 0 0");
    }

    private static void stockKeptToTheNext() {
        due.promise("38: what is kept to the next NIGHT costs kept each");
        stocked("two for one night", needing(1, 2), 5, 2, 9, "3 0 0 0 0 0 0 0");
        stocked("one for three nights", needing(1, 0, 0, 1), 7, 2, 13, "2 0 0 0 0 0 0 0");
        stocked("one for three nights, as dear", needing(1, 0, 0, 1), 6, 2, 12, "2 0 0 0 0 0 0 0");
        stocked("one for three nights, dearer", needing(1, 0, 0, 1), 5, 2, 10, "1 0 0 1 0 0 0 0");
        stocked("one each, for one and two", needing(1, 1, 1), 9, 3, 18, "3 0 0 0 0 0 0 0");
    }

    private static void stockOfLikeOnes() {
        due.promise("38: of like ones the most for NIGHT 0, then for 1");
        stocked("keeping as dear as anew", needing(1, 2, 3), 2, 1, 6, "3 0 3 0 0 0 0 0");
        stocked("three alike", needing(3, 3, 3), 3, 1, 9, "6 0 3 0 0 0 0 0");
        stocked("four alike", needing(3, 3, 3, 3), 3, 1, 12, "6 0 6 0 0 0 0 0");
        stocked("the first lies apart", needing(0, 3, 3, 3), 3, 1, 9, "0 6 0 3 0 0 0 0");
        stocked("a NIGHT that needs nothing may buy", needing(5, 0, 0, 2), 4, 0, 4, "7 0 0 0 0 0 0 0");
    }

    private static void stockUpToTheLastNight() {
        due.promise("38: NIGHTS 0 .. 7");
        stocked("the last alone", needing(0, 0, 0, 0, 0, 0, 0, 9), 5, 1, 5, "0 0 0 0 0 0 0 9");
        stocked("the last kept from the first", needing(1, 0, 0, 0, 0, 0, 0, 1), 8, 1, 15, "2 0 0 0 0 0 0 0");
        stocked("as dear", needing(1, 0, 0, 0, 0, 0, 0, 1), 7, 1, 14, "2 0 0 0 0 0 0 0");
        stocked("dearer", needing(1, 0, 0, 0, 0, 0, 0, 1), 6, 1, 12, "1 0 0 0 0 0 0 1");
        stocked("the last two", needing(0, 0, 0, 0, 0, 0, 1, 1), 6, 1, 7, "0 0 0 0 0 0 2 0");
    }

    private static void stockMost() {
        due.promise("38: the dearest of all");
        stocked("each anew", needing(99, 99, 99, 99, 99, 99, 99, 99), 999, 99, 7992, "99 99 99 99 99 99 99 99");
        stocked("all at once", needing(99, 99, 99, 99, 99, 99, 99, 99), 999, 0, 999, "792 0 0 0 0 0 0 0");
        stocked("ten kept by 99", needing(10, 10, 10, 10, 10, 10, 10, 10), 990, 99, 7920, "20 0 20 0 20 0 20 0");
    }

    private static void looserRanges() {
        due.promise("39: MACHINES that are told, loose 0 .. 10; -2 for others");
        MachinesDream x = new MachinesDream();
        due.is("none is told", x.looser(0, 0), -2);
        x.machine(0, 0);
        x.machine(0, 0);
        for (int bad : new int[] {-2, 2, 4, 5, LOW, HIGH}) {
            due.is("looser(" + bad + ", 5)", x.looser(bad, 5), -2);
        }
        for (int bad : new int[] {-1, 11, LOW, HIGH}) {
            due.is("looser(0, " + bad + ")", x.looser(0, bad), -2);
        }
        due.is("about(7)", x.about(7), 0);
        due.is("looser(0, 0)", x.looser(0, 0), 1);
        due.is("looser(1, 10)", x.looser(1, 10), 2);
    }

    private static void looserUpToEight() {
        due.promise("39: -2 if there are 8");
        MachinesDream x = new MachinesDream();
        x.machine(0, 0);
        Due.text(x, "loose 4;");
        for (int n = 1; n <= 8; n++) {
            due.is("looser(0, 4)", x.looser(0, 4), n);
        }
        due.is("looser(0, 5), the ninth", x.looser(0, 5), -2);
        due.is("about(7)", x.about(7), 8);
        due.is("it is not among them", x.whose(), 1);
    }

    private static void looserNone() {
        due.promise("39: machine NONE: none any more");
        MachinesDream x = new MachinesDream();
        due.is("looser(-1, 0) of none", x.looser(-1, 0), 0);
        x.machine(0, 0);
        Due.text(x, "loose 4;");
        for (int n = 1; n <= 8; n++) {
            x.looser(0, n == 8 ? 5 : 4);
        }
        due.is("whose()", x.whose(), 0);
        due.is("looser(-1, 4) of eight", x.looser(-1, 4), 0);
        due.is("about(7)", x.about(7), 0);
        due.is("whose()", x.whose(), 1);
        due.is("looser(0, 4)", x.looser(0, 4), 1);
        due.is("whose()", x.whose(), 1);
    }

    private static void whoseWithoutAny() {
        due.promise("40: without TEXTS, without READ");
        MachinesDream x = new MachinesDream();
        due.is("no TEXTS", x.whose(), 0);
        x.machine(0, 0);
        x.looser(0, 0);
        due.is("no TEXTS", x.whose(), 0);
        x.looser(-1, 0);
        for (int t = 0; t < 4; t++) {
            Due.text(x, "loose " + t + ";");
            due.is("nothing READ: all", x.whose(), (2 << t) - 1);
        }
    }

    private static void whoseBits() {
        due.promise("40: TEXTS (bits) by whose loose all are so");
        MachinesDream x = new MachinesDream();
        x.machine(0, 0);
        x.machine(0, 0);
        Due.text(x, "loose 3;");
        Due.text(x, "loose who+3;");
        Due.text(x, "loose 4;");
        Due.text(x, "loose 4-who;");
        x.looser(0, 3);
        due.is("0 by 3", x.whose(), 1 + 2);
        x.looser(1, 4);
        due.is("and 1 by 4", x.whose(), 2);
        x.looser(1, 3);
        due.is("and by 3 as well", x.whose(), 0);
        x.looser(-1, 0);
        x.looser(1, 3);
        due.is("1 by 3", x.whose(), 1 + 8);
        x.looser(0, 4);
        due.is("and 0 by 4", x.whose(), 8);
    }

    private static void whoseHeld() {
        due.promise("40: loose held to 0 .. 10");
        MachinesDream x = new MachinesDream();
        x.machine(0, 0);
        Due.text(x, "loose 11;");
        Due.text(x, "loose 10;");
        Due.text(x, "loose -1;");
        Due.text(x, "loose 0;");
        x.looser(0, 10);
        due.is("10", x.whose(), 3);
        x.looser(-1, 0);
        x.looser(0, 0);
        due.is("0", x.whose(), 12);
        x.looser(-1, 0);
        x.looser(0, 9);
        due.is("9", x.whose(), 0);
    }

    private static void whoseAsNow() {
        due.promise("40: (as now)");
        MachinesDream x = new MachinesDream();
        x.machine(0, 0);
        Due.text(x, "loose oil;");
        Due.text(x, "loose night;");
        x.looser(0, 2);
        due.is("OIL 0, NIGHT 0", x.whose(), 0);
        x.oil(0, 2);
        due.is("OIL 2", x.whose(), 1);
        x.night(2);
        due.is("OIL 0, NIGHT 2", x.whose(), 2);
        x.oil(0, 2);
        due.is("OIL 2, NIGHT 2", x.whose(), 3);
        x.by(0);
        due.is("whichever rules", x.whose(), 3);
    }

    private static void whoseWithoutLoose() {
        due.promise("40: a TEXT without loose: OIL, less BRASS by 3");
        MachinesDream x = new MachinesDream();
        x.machine(7, 0);
        x.oil(0, 5);
        Due.text(x, "believes 1;");
        Due.text(x, "loose 3;");
        Due.text(x, "loose 4;");
        x.by(2);
        x.looser(0, 3);
        due.is("5 less 2", x.whose(), 3);
        x.oil(0, 6);
        due.is("6 less 2", x.whose(), 2);
    }

    private static MachinesDream sums(int... sums) {
        MachinesDream x = new MachinesDream();
        for (int k = 0; k < sums.length; k++) {
            x.machine(0, 0);
            x.crank(k, sums[k]);
        }
        return x;
    }

    private static void forgivenRange() {
        due.promise("41: a limit 0 .. 9999, NONE for others");
        MachinesDream x = sums(9999, 0);
        for (int bad : new int[] {-1, 10000, LOW, HIGH}) {
            due.is("forgiven(" + bad + ")", x.forgiven(bad), -1);
        }
        due.is("forgiven(0)", x.forgiven(0), 2);
        due.is("forgiven(9998)", x.forgiven(9998), 2);
        due.is("forgiven(9999)", x.forgiven(9999), 3);
    }

    private static void forgivenLimitOrLess() {
        due.promise("41: a limit or less");
        MachinesDream x = sums(100, 250);
        due.is("99", x.forgiven(99), 0);
        due.is("100", x.forgiven(100), 1);
        due.is("349", x.forgiven(349), 1);
        due.is("350", x.forgiven(350), 3);
        due.is("none is told", new MachinesDream().forgiven(9999), 0);
        MachinesDream y = sums(9999, 9999, 9999, 9999, 9999);
        due.is("five of 9999", y.forgiven(9999), 1);
        due.is("five of 9999", y.forgiven(9998), 0);
    }

    private static void forgivenTheMost() {
        due.promise("41: the most MACHINES");
        MachinesDream x = sums(1, 50, 50, 60, 60);
        due.is("100: 1 and 50", x.forgiven(100), 1 + 2);
        due.is("101: 1, 50 and 50", x.forgiven(101), 1 + 2 + 4);
        due.is("160", x.forgiven(160), 1 + 2 + 4);
        due.is("161: four", x.forgiven(161), 1 + 2 + 4 + 8);
        due.is("221: all", x.forgiven(221), 31);
    }

    private static void forgivenOfLikeOnes() {
        due.promise("41: of like ones the least together, then the lowest set");
        due.is("the least", sums(7, 5, 6).forgiven(10), 2);
        due.is("two, the least together", sums(7, 5, 6).forgiven(13), 2 + 4);
        due.is("alike: the lowest set", sums(5, 5, 5).forgiven(5), 1);
        due.is("alike: the lowest set of two", sums(5, 5, 5).forgiven(10), 3);
        due.is("2 and 3 together as 1 and 4", sums(4, 1, 2, 3, 9).forgiven(3), 2 + 4);
        due.is("5 as 1 and 4, 2 and 3: the lowest set", sums(4, 3, 2, 1).forgiven(3), 4 + 8);
        due.is("the lowest of like sets", sums(2, 1, 2, 1).forgiven(3), 2 + 8);
        due.is("the lowest of like sets", sums(1, 2, 2).forgiven(3), 1 + 2);
        due.is("the lowest of like sets", sums(2, 2, 1).forgiven(3), 1 + 4);
    }

    private static void forgivenSumsOf0() {
        due.promise("41: SUMS of 0");
        due.is("all of 0", sums(0, 0, 0, 0, 0).forgiven(0), 31);
        due.is("one of 1", sums(0, 1, 0).forgiven(0), 5);
        due.is("one of 1", sums(0, 1, 0).forgiven(1), 7);
    }

    private static void snowOf0() {
        due.promise("42: 0 has one");
        due.is("none is told", new MachinesDream().snow(), 0);
        due.is("0", sums(0).snow(), 1);
        due.is("five 0s", sums(0, 0, 0, 0, 0).snow(), 5);
        due.is("1", sums(1).snow(), 0);
    }

    private static void snowOfAll() {
        due.promise("42: how many 0s there are in all SUMS");
        int[][] rows = {{10, 1}, {100, 2}, {1000, 3}, {101, 1}, {1001, 2}, {9999, 0}, {9009, 2}, {9090, 2}, {500, 2}, {5, 0}};
        for (int[] row : rows) {
            due.is("of " + row[0], sums(row[0]).snow(), row[1]);
        }
        due.is("of all", sums(1000, 1000, 1000, 1000, 10).snow(), 13);
    }

    private static void wornNone() {
        due.promise("43: NONE: none (none is told)");
        MachinesDream x = new MachinesDream();
        due.is("worn()", x.worn(), -1);
        x.machine(0, 0);
        due.is("of WEAR 0", x.worn(), 0);
    }

    private static void wornOfLikeOnes() {
        due.promise("43: MOST WORN: of like ones the lowest");
        MachinesDream x = new MachinesDream();
        x.machine(0, 50);
        x.machine(0, 49);
        due.is("50 and 49", x.worn(), 0);
        x.machine(0, 50);
        due.is("50, 49 and 50", x.worn(), 0);
        x.machine(0, 51);
        x.machine(0, 51);
        due.is("51 twice", x.worn(), 3);
        x.crank(4, 0);
        due.is("52", x.worn(), 4);
        x.undo();
        due.is("51 twice", x.worn(), 3);
    }

    private static void blankBits() {
        due.promise("44: MACHINES (bits) without a ROLL");
        MachinesDream x = new MachinesDream();
        due.is("none is told", x.blank(), 0);
        for (int k = 0; k < 5; k++) {
            x.machine(0, 0);
            due.is("at first none has one", x.blank(), (2 << k) - 1);
        }
        x.night(1);
        due.is("all have one", x.blank(), 0);
        for (int k = 0; k < 5; k++) {
            x.lift(k);
            due.is("lifted", x.blank(), (2 << k) - 1);
        }
    }

    private static void ledgerRange() {
        due.promise("45: of a MACHINE (NONE: all); -2 for others");
        MachinesDream x = new MachinesDream();
        due.is("ledger(-1)", x.ledger(-1), 0);
        due.is("ledger(0) of none", x.ledger(0), -2);
        x.machine(0, 0);
        x.machine(0, 0);
        due.is("ledger(0)", x.ledger(0), 0);
        for (int bad : new int[] {-2, 2, 4, 5, LOW, HIGH}) {
            due.is("ledger(" + bad + ")", x.ledger(bad), -2);
        }
        Due.text(x, "believes 10*who;");
        x.by(0);
        x.night(3);
        due.is("ledger(0)", x.ledger(0), 0);
        due.is("ledger(1)", x.ledger(1), 3);
        due.is("ledger(-1)", x.ledger(-1), 3);
    }

    private static void ledgerOfTheLatestThirty() {
        due.promise("45: BOOK (the latest 30)");
        MachinesDream x = new MachinesDream();
        x.machine(0, 0);
        x.machine(0, 0);
        Due.text(x, "believes if who=0 and night>4 then 0 else 10 end;");
        x.by(0);
        x.night(5);
        due.is("ledger(0)", x.ledger(0), 5);
        due.is("ledger(1)", x.ledger(1), 5);
        x.night(20);
        due.is("ledger(-1)", x.ledger(-1), 30);
        due.is("ledger(0)", x.ledger(0), 5);
        x.night(1);
        due.is("ledger(-1)", x.ledger(-1), 30);
        due.is("the eldest is gone", x.ledger(0), 4);
        due.is("ledger(1)", x.ledger(1), 26);
        x.night(8);
        due.is("ledger(0)", x.ledger(0), 0);
        due.is("ledger(1)", x.ledger(1), 30);
    }

    private static void imageAndBack() {
        due.promise("46, 47: NIGHT");
        MachinesDream x = new MachinesDream();
        due.is("back() at first", x.back(), 0);
        x.night(7);
        due.is("image()", x.image(), 7);
        x.night(2);
        due.is("NIGHT", x.is(0), 9);
        due.is("back()", x.back(), 7);
        due.is("NIGHT", x.is(0), 7);
        MachinesDream y = Due.late(9999);
        due.is("image() at 9999", y.image(), 9999);
        due.is("back()", y.back(), 9999);
    }

    private static void imageStays() {
        due.promise("47: (it stays)");
        MachinesDream x = new MachinesDream();
        x.machine(1, 2);
        x.crank(0, 3);
        x.image();
        String kept = Due.seen(x);
        for (int k = 0; k < 3; k++) {
            x.night(1);
            x.undo();
            x.undo();
            x.machine(3, 4);
            x.rule(1, false, 0);
            x.back();
        }
        due.same("all", Due.seen(x), kept);
        x.oil(0, 9);
        x.image();
        x.oil(0, 8);
        x.back();
        due.is("the later one", x.of(0, 2), 9);
    }

    private static MachinesDream told() {
        MachinesDream x = new MachinesDream();
        x.machine(1, 2);
        x.machine(3, 4);
        Due.text(x, "loose 4;believes 8;wears 1;");
        Due.text(x, "loose 5;");
        x.by(0);
        x.rule(6, false, 30);
        x.rule(6, true, 40);
        x.crank(0, 1634);
        x.oil(1, 5);
        x.night(3);
        Due.strips(x, "1234", "132");
        x.day(12);
        x.looser(0, 4);
        x.likes(true, 0, 0, 4);
        x.likes(false, 0, 0, 4);
        x.needs(1, 4);
        return x;
    }

    /** One thing done behind an image, so that it can be seen whether it is as in the image again. */
    private static void change(MachinesDream x, int which) {
        switch (which) {
            case 0: x.machine(9, 9); break;
            case 1: x.crank(1, 77); break;
            case 2: x.oil(0, 8); break;
            case 3: x.lift(0); break;
            case 4: x.night(1); break;
            case 5: x.decades(5, 20); break;
            case 6: x.undo(); break;
            case 7: x.rule(6, false, 5); break;
            case 8: x.rule(9, true, 5); break;
            case 9: Due.text(x, "loose 4;"); break;
            case 10: x.by(1); break;
            case 11: x.by(-1); break;
            case 12: x.put(5); break;
            case 13: x.put(-1); break;
            case 14: x.second(5); break;
            case 15: x.second(-1); break;
            case 16: x.day(1234); break;
            case 17: x.day(-1); x.day(1234); break;
            case 18: x.looser(1, 9); break;
            case 19: x.looser(-1, 0); x.looser(0, 9); break;
            case 20: x.likes(true, 0, 1, 9); break;
            case 21: x.likes(false, 1, 0, 9); break;
            case 22: x.needs(5, 7); break;
            case 23: x.put(-1); x.put(1); x.put(2); x.put(3); x.put(5); break;
            default: x.second(-1); x.second(4); x.second(3); x.second(2); break;
        }
    }

    private static void imageHasAll() {
        due.promise("V: AN IMAGE: all as it is. BACK: all is so again");
        for (int which = 0; which <= 24; which++) {
            MachinesDream x = told();
            x.image();
            String kept = Due.seen(x);
            change(x, which);
            String changed = Due.seen(x);
            due.no("change " + which + " is seen", changed.equals(kept));
            x.back();
            due.same("all behind change " + which, Due.seen(x), kept);
            // And an image of what was changed has the change.
            MachinesDream y = told();
            change(y, which);
            y.image();
            y.back();
            due.same("all with change " + which, Due.seen(y), changed);
        }
    }

    private static void imageHasSteps() {
        due.promise("V: AN IMAGE: STEPS too");
        MachinesDream x = new MachinesDream();
        x.machine(0, 0);
        for (int k = 1; k <= 35; k++) {
            x.crank(0, 1);
        }
        x.image();
        for (int k = 0; k < 30; k++) {
            x.undo();
        }
        due.is("SUM", x.of(0, 3), 5);
        for (int k = 0; k < 7; k++) {
            x.crank(0, 100);
        }
        x.back();
        due.is("about(3)", x.about(3), 30);
        for (int k = 34; k >= 5; k--) {
            due.is("undo()", x.undo(), k - 5);
            due.is("SUM", x.of(0, 3), k);
        }
        due.is("undo()", x.undo(), -1);
        imageHasStepsAmongMany();
    }

    /** So many steps behind the image that none of those it has are left among the latest. */
    private static void imageHasStepsAmongMany() {
        for (int ahead : new int[] {3, 33}) {
            for (int behind : new int[] {1, 28, 45}) {
                MachinesDream x = new MachinesDream();
                x.machine(0, 0);
                for (int k = 0; k < ahead; k++) {
                    x.crank(0, 1);
                }
                x.image();
                for (int k = 0; k < behind; k++) {
                    x.crank(0, 100);
                }
                x.back();
                due.is("SUM", x.of(0, 3), ahead);
                for (int k = Math.min(ahead, 30) - 1; k >= 0; k--) {
                    due.is("undo() of " + ahead + " and " + behind, x.undo(), k);
                    due.is("SUM", x.of(0, 3), ahead - Math.min(ahead, 30) + k);
                }
                due.is("undo()", x.undo(), -1);
            }
        }
    }

    private static void imageLeavesTheTape() {
        due.promise("V: but the tape");
        MachinesDream x = new MachinesDream();
        Due.tape(x, "lift 0;");
        x.image();
        x.end(3);
        x.back();
        due.is("about(8)", x.about(8), 3);
        Due.tape(x, "night 1;");
        x.back();
        due.is("about(8)", x.about(8), 8);
        due.is("text()", x.text(), 0);
        due.is("played(0)", x.played(0), -1);
        due.is("NIGHT", x.is(0), 1);
        x.image();
        due.is("about(8)", x.about(8), 0);
    }

    private static void imageLeavesTheFault() {
        due.promise("V: and the latest FAULT");
        MachinesDream x = new MachinesDream();
        Due.text(x, "lift 5;");
        x.back();
        due.is("fault(0)", x.fault(0), 2);
        due.is("fault(1)", x.fault(1), 5);
        x.image();
        Due.text(x, " foo");
        x.back();
        due.is("fault(0)", x.fault(0), 1);
        due.is("fault(1)", x.fault(1), 1);
        Due.text(x, "");
        x.back();
        due.is("TEXTS", x.about(1), 0);
        due.is("fault(0)", x.fault(0), 0);
        due.is("fault(1)", x.fault(1), -1);
    }

    private static void aboutRange() {
        due.promise("48: 0 .. 8, -2 for others");
        MachinesDream x = new MachinesDream();
        for (int what : new int[] {-1, -2, 9, LOW, HIGH}) {
            due.is("about(" + what + ")", x.about(what), -2);
        }
        due.is("about(0)", x.about(0), 0);
        due.is("about(8)", x.about(8), 0);
    }

    private static void aboutEach() {
        due.promise("48: MACHINES, TEXTS, THE TEXT, STEPS, digits of THE STRIP, of THE OTHER, DAYS, READ, bytes");
        MachinesDream x = new MachinesDream();
        int[] full = {5, 4, 3, 30, 12, 12, 8, 8, 300};
        for (int k = 0; k < 15; k++) {
            x.machine(0, 0);
            x.text();
            x.put(1);
            x.second(1);
            x.day(1);
            x.looser(0, 1);
            x.feed(0x20202020, 0x20202020, 0x20202020, 0x20202020, 0x20202020);
            if (k < 4) {
                x.text();
            }
        }
        x.by(3);
        x.night(31);
        for (int what = 0; what < full.length - 1; what++) {
            due.is("about(" + what + ")", x.about(what), full[what]);
        }
        for (int k = 0; k < 15; k++) {
            x.feed(0, 0, 0, 0, 0);
        }
        due.is("about(8)", x.about(8), 300);
    }
}
