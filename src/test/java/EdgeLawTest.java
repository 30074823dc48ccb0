/** The boundary cases of SUMS, of laws and of what is played, promises 8 and 13 and II: each sentence has a test. */
public final class EdgeLawTest {
    private static final int LOW = Due.LOW;
    private static final int HIGH = Due.HIGH;
    private static final String MILLION = "(1000*1000)";
    private static final Due due = new Due();

    public static void main(String[] args) {
        fromTheLeft();
        slashCutsTowards0();
        slashBy0();
        aboveAMillion();
        belowTheSameLess();
        atEachStep();
        digitsOfItsSize();
        sumsOfAMachine();
        whatIsCompared();
        eitherAndBoth();
        notOfAnAsk();
        justTheChosenSum();
        nameNight();
        nameOfMachines();
        nameLong();
        nameSame();
        looseHeld();
        believesHeld();
        wearsHeld();
        withoutBelieves();
        withoutWears();
        eachLawOnItsOwn();
        byRange();
        theTextAtFirstNone();
        playedRange();
        playedAllDone();
        playedLawsAside();
        playedMachine();
        playedRules();
        playedCrank();
        playedOil();
        playedLift();
        playedNightsThatCanPass();
        playedNumberAmongAll();
        playedStepsEach();
        due.finish("EdgeLawTest");
    }

    private static MachinesDream bank() {
        MachinesDream x = new MachinesDream();
        x.machine(7, 21);
        x.machine(4, 43);
        x.crank(0, 305);
        x.crank(1, 9078);
        x.oil(1, 6);
        return x;
    }

    /** Whether a SUM is what it should be, asked by a law. */
    private static void value(String sum, int want) {
        MachinesDream x = bank();
        String size = Math.abs(want) > 9999 ? "(" + Math.abs(want) / 1000 + "*1000+" + Math.abs(want) % 1000 + ")"
                : "" + Math.abs(want);
        Due.text(x, "believes if " + sum + "=" + (want < 0 ? "-" : "") + size + " then 7 else 3 end;");
        due.yes("by(0)", x.by(0));
        due.is("whether " + sum + " is " + want, x.of(1, 6), 7);
    }

    private static void holds(String ask, boolean want) {
        MachinesDream x = bank();
        Due.text(x, "believes if " + ask + " then 7 else 3 end;");
        due.yes("by(0)", x.by(0));
        due.is("whether " + ask, x.of(1, 6), want ? 7 : 3);
    }

    private static void fromTheLeft() {
        due.promise("II: from the left");
        value("10-3-4", 3);
        value("10-(3-4)", 11);
        value("10-3+4", 11);
        value("100/10/5", 2);
        value("100/(10/5)", 50);
        value("7/2*2", 6);
        value("2*7/2", 7);
        value("1+2*3", 7);
        value("2*3+1", 7);
        value("8-6/2", 5);
        value("-2+3", 1);
        value("-2*3+10", 4);
        value("digits 19+1", 11);
        value("digits 19*2", 20);
        value("sums 0+1", 306);
    }

    private static void slashCutsTowards0() {
        due.promise("II: / cuts towards 0");
        value("7/2", 3);
        value("-7/2", -3);
        value("7/-2", -3);
        value("-7/-2", 3);
        value("1/2", 0);
        value("-1/2", 0);
        value("6/3", 2);
        value("-6/3", -2);
        value("0/5", 0);
        value("9999/9999", 1);
        value("9998/9999", 0);
    }

    private static void slashBy0() {
        due.promise("II: by 0 it is 0");
        value("5/0", 0);
        value("-5/0", 0);
        value("0/0", 0);
        value("5/0+3", 3);
        value("5/(3-3)*7", 0);
        value("5/1", 5);
        value("5/-1", -5);
        value(MILLION + "/0", 0);
    }

    private static void aboveAMillion() {
        due.promise("II: what is above 1000000 is that");
        value("1000*1000", 1000000);
        value("1000*1000-1", 999999);
        value("999*1001+0", 999999);
        value("1001*1000", 1000000);
        value("9999*9999", 1000000);
        value("9999*100", 999900);
        value("9999*101", 1000000);
        value("1000*1000+1", 1000000);
        value("1000*1000+9999", 1000000);
        value("1000*999+999", 999999);
        value("1000*999+1000", 1000000);
        value("1000*999+1001", 1000000);
        value("1000*1000--1", 1000000);
        value("1000*999--1001", 1000000);
        value(MILLION + "*" + MILLION, 1000000);
        value("-" + MILLION + "*-" + MILLION, 1000000);
        value(MILLION + "+" + MILLION, 1000000);
    }

    private static void belowTheSameLess() {
        due.promise("II: (below the same less)");
        value("-1000*1000", -1000000);
        value("-1000*1000+1", -999999);
        value("-1001*1000", -1000000);
        value("-9999*9999", -1000000);
        value("-1000*1000-1", -1000000);
        value("-1000*999-999", -999999);
        value("-1000*999-1001", -1000000);
        value("-1000*999+-1001", -1000000);
        value("-" + MILLION, -1000000);
        value("--" + MILLION, 1000000);
        value(MILLION + "*-" + MILLION, -1000000);
        value("-" + MILLION + "-" + MILLION, -1000000);
    }

    private static void atEachStep() {
        due.promise("II: at each step");
        value("9999*9999/1000", 1000);
        value("9999*9999-9999*9999", 0);
        value("1000*1000+5-5", 999995);
        value("-1000*1000-5+5", -999995);
        value("9999*9999*0", 0);
        value("9999*9999*-1", -1000000);
        value("(9999*9999+9999)/1000*2", 2000);
        value("9999*9999*9999*9999*9999", 1000000);
        value("1000*1000+1-2", 999998);
    }

    private static void digitsOfItsSize() {
        due.promise("II: digits ONE (the digits of its size together)");
        value("digits 0", 0);
        value("digits 9", 9);
        value("digits 10", 1);
        value("digits 9999", 36);
        value("digits -9999", 36);
        value("digits (9999*100)", 36);
        value("digits (1000*1000-1)", 54);
        value("digits " + MILLION, 1);
        value("digits -" + MILLION, 1);
        value("digits (1-1000*1000)", 54);
        value("digits digits 9999", 9);
        value("-digits 12", -3);
        value("digits sum", 24);
        value("digits (1234*810)", 36);
    }

    private static void sumsOfAMachine() {
        due.promise("II: sums ONE (SUM of the MACHINE of that number; 0 if none such is told)");
        value("sums 0", 305);
        value("sums 1", 9078);
        value("sums 2", 0);
        value("sums 4", 0);
        value("sums 5", 0);
        value("sums 9999", 0);
        value("sums -1", 0);
        value("sums -2", 0);
        value("sums " + MILLION, 0);
        value("sums -" + MILLION, 0);
        value("sums who", 9078);
        value("sums (1-who)", 305);
        value("sums sums 2", 305);
        MachinesDream x = new MachinesDream();
        for (int k = 0; k < 5; k++) {
            x.machine(0, 0);
            x.crank(k, 10 + k);
        }
        Due.text(x, "wears if sums(who)=10+who and sums 4=14 and sums 5=0 then 7 else 3 end;");
        x.by(0);
        for (int k = 0; k < 5; k++) {
            due.is("of(" + k + ", 7)", x.of(k, 7), 7);
        }
    }

    private static void whatIsCompared() {
        due.promise("II: one of < <= > >= = # (unlike)");
        String[] signs = {"<", "<=", ">", ">=", "=", "#"};
        boolean[][] want = {{true, true, false, false, false, true}, {false, true, false, true, true, false},
            {false, false, true, true, false, true}};
        int[][] pairs = {{4, 5}, {5, 5}, {5, 4}};
        for (int p = 0; p < 3; p++) {
            for (int s = 0; s < 6; s++) {
                holds(pairs[p][0] + signs[s] + pairs[p][1], want[p][s]);
                holds("-" + pairs[p][1] + signs[s] + "-" + pairs[p][0], want[p][s]);
            }
        }
        holds("0<-0", false);
        holds("-1<0", true);
        holds("1+1=2*1", true);
        holds("-" + MILLION + "<" + MILLION, true);
    }

    private static void eitherAndBoth() {
        due.promise("II: EITHER: BOTH {or BOTH}. BOTH: ASK {and ASK}");
        String[] asks = {"1=2", "1=1"};
        for (int bits = 0; bits < 8; bits++) {
            boolean a = (bits & 1) == 1;
            boolean b = (bits & 2) == 2;
            boolean c = (bits & 4) == 4;
            String one = asks[a ? 1 : 0];
            String two = asks[b ? 1 : 0];
            String three = asks[c ? 1 : 0];
            holds(one + " or " + two + " and " + three, a || b && c);
            holds(one + " and " + two + " or " + three, a && b || c);
            holds(one + " or " + two + " or " + three, a || b || c);
            holds(one + " and " + two + " and " + three, a && b && c);
        }
    }

    private static void notOfAnAsk() {
        due.promise("II: not ASK");
        holds("not 1=1", false);
        holds("not 1=2", true);
        holds("not not 1=1", true);
        holds("not not not 1=1", false);
        holds("not 1=2 and 1=2", false);
        holds("not 1=1 or 1=1", true);
        holds("1=1 and not 1=2", true);
        holds("not 3<2", true);
    }

    private static void justTheChosenSum() {
        due.promise("II: of if just the SUM that is chosen is asked");
        value("if 1=1 then 4 else 5 end", 4);
        value("if 1=2 then 4 else 5 end", 5);
        value("if 1=1 then if 1=2 then 4 else 5 end else 6 end", 5);
        value("if 1=2 then 4 else if 1=1 then 5 else 6 end end", 5);
        value("10*if 1=1 then 4 else 5 end+1", 41);
        value("if 1=1 then 4+1 else 5 end-1", 4);
        value("-if 1=2 then 4 else 5 end", -5);
        value("if if 1=1 then 2 else 3 end=2 then 4 else 5 end", 4);
        value("if 1=1 then 4 else 5/0 end", 4);
        value("(if 1=1 then 1 else 2 end)*(if 1=2 then 1 else 2 end)", 2);
    }

    private static void nameNight() {
        due.promise("II: night (as all is then)");
        MachinesDream x = Due.late(9997);
        x.machine(0, 0);
        Due.text(x, "believes night-9990;loose night-9993;wears night-9992;");
        x.by(0);
        due.is("believes", x.of(0, 6), 7);
        due.is("loose", x.of(0, 5), 4);
        due.is("wears", x.of(0, 7), 5);
        x.night(2);
        due.is("wears behind two", x.of(0, 7), 7);
        due.is("WEAR", x.of(0, 1), 5 + 6);
    }

    private static void nameOfMachines() {
        due.promise("II: brass, wear, oil, sum, who (its number)");
        MachinesDream x = new MachinesDream();
        for (int k = 0; k < 5; k++) {
            x.machine(9 - k, 2 * k);
            x.crank(k, 8 - k);
            x.oil(k, 3 + k);
        }
        String[] names = {"brass", "wear", "oil", "sum"};
        for (int n = 0; n < 4; n++) {
            Due.text(x, "believes " + names[n] + ";loose " + names[n] + ";wears " + names[n] + ";");
            x.by(n);
            for (int k = 0; k < 5; k++) {
                int want = n == 0 ? 9 - k : n == 1 ? 2 * k + 1 : n == 2 ? 3 + k : 8 - k;
                due.is(names[n] + " of " + k + " in loose", x.of(k, 5), want);
                due.is(names[n] + " of " + k + " in believes", x.of(k, 6), want);
                due.is(names[n] + " of " + k + " in wears", x.of(k, 7), want);
            }
        }
        MachinesDream y = new MachinesDream();
        Due.text(y, "believes who;loose who;wears who;");
        y.by(0);
        for (int k = 0; k < 5; k++) {
            y.machine(0, 0);
            due.is("who of " + k, y.of(k, 5) * 100 + y.of(k, 6) * 10 + y.of(k, 7), 111 * k);
        }
    }

    private static void nameLong() {
        due.promise("II: long (digits of its ROLL) in believes, wears");
        MachinesDream x = new MachinesDream();
        Due.text(x, "wears long;believes long;loose 10;");
        x.by(0);
        x.machine(0, 0);
        x.crank(0, 1234);
        due.is("without a ROLL", x.of(0, 6), 0);
        due.is("without a ROLL", x.of(0, 7), 0);
        x.night(1);
        due.is("WEAR by the ROLL of that night", x.of(0, 1), 1 + 8);
        due.is("of eight", x.of(0, 6), 8);
        due.is("of eight", x.of(0, 7), 8);
        x.lift(0);
        due.is("lifted", x.of(0, 6), 0);
    }

    private static int same(int sum, int word) {
        MachinesDream x = new MachinesDream();
        Due.text(x, "believes 10*same;loose 0;");
        x.by(0);
        x.machine(0, 0);
        x.crank(0, sum);
        x.rule(1, false, word);
        return x.night(1);
    }

    private static void nameSame() {
        due.promise("II: same (1, if its ROLL has as many digits as SUM, else 0)");
        due.is("one digit of one", same(1, 6), 1);
        due.is("two digits of one", same(1, 66), 0);
        due.is("none of one", same(1, 0), 0);
        due.is("0 has one digit", same(0, 66), 1);
        due.is("three of two", same(12, 66), 0);
        due.is("one of two", same(21, 0), 0);
        due.is("two of two", same(21, 3), 1);
        due.is("four of four", same(9991, 1), 1);
        due.is("five of four", same(9991, 11), 0);
        due.is("three of four", same(9991, 0), 0);
        MachinesDream x = new MachinesDream();
        Due.text(x, "believes 5+same;");
        x.by(0);
        x.machine(0, 0);
        due.is("no ROLL and SUM 0", x.of(0, 6), 5);
        x.night(1);
        due.is("a ROLL of 0", x.of(0, 6), 6);
        x.crank(0, 9 - x.of(0, 3));
        due.is("SUM of one digit", x.of(0, 6), 6);
        x.crank(0, 1);
        due.is("SUM of two", x.of(0, 6), 5);
    }

    private static void held(String law, int what, int most) {
        String[] sums = {"0", "1", "-1", "" + (most - 1), "" + most, "" + (most + 1), "9999", MILLION, "-9999", "-" + MILLION};
        int[] want = {0, 1, 0, most - 1, most, most, most, most, 0, 0};
        for (int k = 0; k < sums.length; k++) {
            MachinesDream x = bank();
            Due.text(x, law + " " + sums[k] + ";");
            x.by(0);
            due.is(law + " " + sums[k], x.of(0, what), want[k]);
        }
    }

    private static void looseHeld() {
        due.promise("II: loose: 0 at least, 10 at most");
        held("loose", 5, 10);
    }

    private static void believesHeld() {
        due.promise("II: believes: 0 at least, 10 at most");
        held("believes", 6, 10);
    }

    private static void wearsHeld() {
        due.promise("II: wears: 0 at least, 9 at most");
        held("wears", 7, 9);
        MachinesDream x = bank();
        Due.text(x, "wears 10;");
        x.by(0);
        x.night(1);
        due.is("WEAR", x.of(0, 1), 22 + 9);
    }

    private static void withoutBelieves() {
        due.promise("II: believes: without: 2");
        MachinesDream x = bank();
        due.is("without a text", x.of(0, 6), 2);
        Due.text(x, "loose 5;wears 5;");
        x.by(0);
        due.is("without it in the text", x.of(0, 6), 2);
        for (int draw = 1; draw <= 2; draw++) {
            MachinesDream y = Due.drawing(5, draw);
            y.machine(0, 0);
            due.is("draw " + draw, y.night(1), draw < 2 ? 1 : 0);
        }
    }

    private static void withoutWears() {
        due.promise("II: wears: without: 1, if OIL is 0, else 0");
        MachinesDream x = bank();
        due.is("OIL 0", x.of(0, 7), 1);
        x.oil(0, 1);
        due.is("OIL 1", x.of(0, 7), 0);
        x.oil(0, 9);
        due.is("OIL 9", x.of(0, 7), 0);
        Due.text(x, "loose 5;believes 5;");
        x.by(0);
        due.is("without it in the text", x.of(0, 7), 0);
        x.oil(0, 0);
        due.is("without it in the text", x.of(0, 7), 1);
    }

    private static void eachLawOnItsOwn() {
        due.promise("II: THE TEXT rules");
        String[] texts = {"loose 4;", "believes 5;", "wears 6;", "wears 6;loose 4;believes 5;"};
        int[][] want = {{4, 2, 1}, {0, 5, 1}, {0, 2, 6}, {4, 5, 6}};
        MachinesDream x = new MachinesDream();
        x.machine(0, 0);
        for (int t = 0; t < 4; t++) {
            due.is("text()", Due.text(x, texts[t]), t);
            x.by(t);
            for (int law = 0; law < 3; law++) {
                due.is("of(0, " + (5 + law) + ") by " + texts[t], x.of(0, 5 + law), want[t][law]);
            }
        }
    }

    private static void byRange() {
        due.promise("8: THE TEXT (NONE: none): true. False for others");
        MachinesDream x = new MachinesDream();
        due.yes("by(-1)", x.by(-1));
        due.no("by(0) of none", x.by(0));
        for (int k = 0; k < 4; k++) {
            Due.text(x, "loose " + k + ";");
            due.no("by(" + (k + 1) + ")", x.by(k + 1));
            due.yes("by(" + k + ")", x.by(k));
            due.is("about(2)", x.about(2), k);
        }
        for (int text : new int[] {-2, 4, 5, LOW, HIGH}) {
            due.no("by(" + text + ")", x.by(text));
            due.is("about(2)", x.about(2), 3);
        }
        due.yes("by(-1)", x.by(-1));
        due.is("about(2)", x.about(2), -1);
    }

    private static void theTextAtFirstNone() {
        due.promise("II: THE TEXT (told; at first none)");
        MachinesDream x = bank();
        Due.text(x, "loose 9;believes 9;wears 9;");
        due.is("about(2)", x.about(2), -1);
        due.is("a text that is not told so doesn't rule", x.of(0, 6), 2);
        x.by(0);
        due.is("it does", x.of(0, 6), 9);
        x.by(-1);
        due.is("no more", x.of(0, 6), 2);
    }

    private static void playedRange() {
        due.promise("13: -2 for others");
        MachinesDream x = new MachinesDream();
        due.is("played(0) of none", x.played(0), -2);
        for (int k = 0; k < 4; k++) {
            Due.text(x, "night 1;");
            due.is("played(" + k + ")", x.played(k), -1);
            due.is("played(" + (k + 1) + ")", x.played(k + 1), -2);
        }
        for (int text : new int[] {-1, -2, 4, LOW, HIGH}) {
            due.is("played(" + text + ")", x.played(text), -2);
        }
        due.is("NIGHT", x.is(0), 4);
    }

    private static int play(MachinesDream x, String text) {
        int t = Due.text(x, text);
        due.is("text() of " + text, t >= 0 ? 1 : 0, 1);
        return x.played(t);
    }

    private static void playedAllDone() {
        due.promise("13: NONE: all is done");
        MachinesDream x = new MachinesDream();
        due.is("of nothing", play(x, ""), -1);
        due.is("of all kinds", play(x, "machine 4 wear 5;strict 1 to 2;slack 3 to 4;crank 66 by 0;oil 0 by 7;night 2;lift 0;"), -1);
        int[] want = {4, 6, 5, x.of(0, 3), 0};
        for (int what = 0; what < 5; what++) {
            due.is("of(0, " + what + ")", x.of(0, what), want[what]);
        }
        due.is("told(1, false)", x.told(1, false), 2);
        due.is("told(3, true)", x.told(3, true), 4);
        due.is("NIGHT", x.is(0), 2);
    }

    private static void playedLawsAside() {
        due.promise("II: its CLAUSES but laws");
        MachinesDream x = new MachinesDream();
        due.is("laws alone", play(x, "loose 1;believes 2;wears 3;"), -1);
        due.is("about(2)", x.about(2), -1);
        due.is("a law last", play(x, "machine 0 wear 0;loose 1;"), -1);
        due.is("about(0)", x.about(0), 1);
        due.is("they don't rule by that", x.of(0, 5), 0);
        due.is("about(2)", x.about(2), -1);
    }

    private static void playedMachine() {
        due.promise("II: machine NUMBER wear NUMBER ; (BRASS)");
        MachinesDream x = new MachinesDream();
        due.is("five", play(x, "machine 9 wear 99;machine 0 wear 0;machine 1 wear 2;machine 3 wear 4;machine 5 wear 6;"), -1);
        due.is("BRASS", x.of(0, 0), 9);
        due.is("WEAR", x.of(0, 1), 99);
        due.is("BRASS", x.of(4, 0), 5);
        due.is("WEAR", x.of(4, 1), 6);
        due.is("a sixth", play(x, "machine 0 wear 0;"), 0);
        due.is("about(0)", x.about(0), 5);
    }

    private static void playedRules() {
        due.promise("II: strict NUMBER to NUMBER ; slack NUMBER to NUMBER ;");
        MachinesDream x = new MachinesDream();
        due.is("played", play(x, "strict 0 to 110;slack 9 to 0;strict 9 to 0;slack 0 to 110;"), -1);
        due.is("told(0, false)", x.told(0, false), 110);
        due.is("told(9, true)", x.told(9, true), 0);
        due.is("told(9, false)", x.told(9, false), 0);
        due.is("told(0, true)", x.told(0, true), 110);
    }

    private static void playedCrank() {
        due.promise("II: crank NUMBER by NUMBER ; (NUMBER, MACHINE): one that can't be ends it");
        MachinesDream x = new MachinesDream();
        x.machine(0, 97);
        x.machine(0, 0);
        int t = Due.text(x, "crank 1 by 0;crank 9999 by 1;");
        due.is("to 98", x.played(t), -1);
        due.is("SUM of 0", x.of(0, 3), 1);
        due.is("SUM of 1", x.of(1, 3), 9999);
        due.is("to 99", x.played(t), -1);
        due.is("SUM of 1", x.of(1, 3), 9998);
        due.is("no further", x.played(t), 0);
        due.is("SUM of 1", x.of(1, 3), 9998);
        due.is("WEAR of 1", x.of(1, 1), 2);
        due.is("of a machine that isn't told", play(x, "crank 1 by 1;crank 1 by 2;crank 1 by 1;"), 1);
        due.is("WEAR of 1", x.of(1, 1), 3);
    }

    private static void playedOil() {
        due.promise("II: oil NUMBER by NUMBER ; (MACHINE, n)");
        MachinesDream x = new MachinesDream();
        x.machine(0, 0);
        x.machine(0, 0);
        due.is("played", play(x, "oil 1 by 9;oil 0 by 2;"), -1);
        due.is("OIL of 0", x.of(0, 2), 2);
        due.is("OIL of 1", x.of(1, 2), 9);
        due.is("of a machine that isn't told", play(x, "oil 1 by 0;oil 2 by 1;oil 0 by 0;"), 1);
        due.is("OIL of 0", x.of(0, 2), 2);
        due.is("OIL of 1", x.of(1, 2), 0);
    }

    private static void playedLift() {
        due.promise("II: lift NUMBER ;");
        MachinesDream x = new MachinesDream();
        x.machine(0, 0);
        x.machine(0, 0);
        int t = Due.text(x, "lift 1;lift 1;");
        due.is("no ROLL", x.played(t), 0);
        x.night(1);
        due.is("one ROLL", x.played(t), 1);
        due.is("blank()", x.blank(), 2);
        due.is("of a machine that isn't told", play(x, "lift 0;lift 2;"), 1);
        due.is("blank()", x.blank(), 3);
    }

    private static void playedNightsThatCanPass() {
        due.promise("II: (of so many NIGHTS those that can pass do)");
        for (int left = 0; left <= 3; left++) {
            MachinesDream x = Due.late(9999 - left);
            x.machine(0, 0);
            Due.text(x, "night 2;oil 0 by 9;");
            due.is("two of " + left, x.played(0), left >= 2 ? -1 : 0);
            due.is("NIGHT", x.is(0), Math.min(9999, 9999 - left + 2));
            due.is("OIL", x.of(0, 2), left >= 2 ? 9 : 0);
            due.is("WEAR", x.of(0, 1), Math.min(left, 2));
        }
        MachinesDream x = Due.late(9939);
        Due.text(x, "night 60;");
        due.is("60 of 60", x.played(0), -1);
        due.is("NIGHT", x.is(0), 9999);
        due.is("60 of none", x.played(0), 0);
    }

    private static void playedNumberAmongAll() {
        due.promise("II: its number among all CLAUSES (from 0); what was done stays");
        MachinesDream x = new MachinesDream();
        due.is("the first", play(x, "lift 0;loose 1;"), 0);
        due.is("behind three laws", play(x, "loose 1;believes 1;wears 1;lift 0;"), 3);
        due.is("a law between", play(x, "machine 0 wear 3;loose 1;crank 7 by 0;believes 2;lift 0;crank 8 by 0;"), 4);
        due.is("about(0)", x.about(0), 1);
        due.is("SUM", x.of(0, 3), 7);
        x.back();
        due.is("the 24th", play(x, Due.times("night 1;", 23) + "lift 0;"), 23);
        due.is("NIGHT", x.is(0), 23);
    }

    private static void playedStepsEach() {
        due.promise("II: as by hand: each is a STEP of its own");
        MachinesDream x = new MachinesDream();
        play(x, "machine 0 wear 0;strict 0 to 1;crank 5 by 0;oil 0 by 1;night 2;lift 0;lift 0;");
        due.is("about(3)", x.about(3), 5);
        due.is("undo() of the lift", x.undo(), 4);
        due.is("ROLL", x.of(0, 4), 1);
        x.undo();
        due.is("NIGHT", x.is(0), 1);
        x.undo();
        due.is("OIL", x.of(0, 2), 1);
        x.undo();
        due.is("OIL", x.of(0, 2), 0);
        due.is("undo() of the crank", x.undo(), 0);
        due.is("SUM", x.of(0, 3), 0);
        due.is("about(0)", x.about(0), 1);
        play(x, "night 60;");
        due.is("about(3)", x.about(3), 30);
    }
}
