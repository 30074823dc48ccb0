/** Promises 4 to 8 and 13: the tape, texts, faults, laws, what is played. */
public final class TextTest {
    private static final int LOW = Integer.MIN_VALUE;
    private static final int HIGH = Integer.MAX_VALUE;
    private static final Due due = new Due();

    public static void main(String[] args) {
        feed();
        end();
        text();
        fault();
        misplaced();
        notTold();
        tooDeep();
        severalAtOne();
        fine();
        by();
        values();
        names();
        played();
        playedUpToTheEnd();
        due.finish("TextTest");
    }

    private static void feed() {
        due.promise("4 feed");
        MachinesDream x = new MachinesDream();
        for (int i = 1; i <= 15; i++) {
            due.is("feed", x.feed(0, -1, LOW, HIGH, 5), 20 * i);
        }
        due.is("feed beyond 300", x.feed(0, 0, 0, 0, 0), -1);
        due.is("about(8)", x.about(8), 300);
        x.end(281);
        due.is("feed at 281", x.feed(0, 0, 0, 0, 0), -1);
        due.is("about(8)", x.about(8), 281);
        x.end(280);
        due.is("feed at 280", x.feed(0, 0, 0, 0, 0), 300);
        // The highest byte of a first: "night 2;" and blanks.
        x = new MachinesDream();
        x.feed(0x6e696768, 0x74203b20, 0x20202020, 0x20202020, 0x0a0a0a20);
        due.is("text()", x.text(), -1);
        due.is("fault(1)", x.fault(1), 6);
        x.feed(0x6e696768, 0x7420323b, 0x20202020, 0x20202020, 0x0a0a0a20);
        due.is("text()", x.text(), 0);
        x.played(0);
        due.is("is(0)", x.is(0), 2);
        // A byte above 127 is no blank and no letter.
        x.feed(0x202020e1, 0, 0, 0, 0);
        x.text();
        due.is("fault(1)", x.fault(1), 3);
    }

    private static void end() {
        due.promise("5 end");
        MachinesDream x = new MachinesDream();
        due.is("end(1) of none", x.end(1), -1);
        due.is("end(0)", x.end(0), 0);
        x.feed(1, 2, 3, 4, 5);
        due.is("end(-1)", x.end(-1), -1);
        due.is("end(21)", x.end(21), -1);
        due.is("end(LOW)", x.end(LOW), -1);
        due.is("end(HIGH)", x.end(HIGH), -1);
        due.is("about(8)", x.about(8), 20);
        due.is("end(20)", x.end(20), 20);
        due.is("end(7)", x.end(7), 7);
        due.is("end(8)", x.end(8), -1);
        due.is("about(8)", x.about(8), 7);
    }

    private static void text() {
        due.promise("6 text");
        MachinesDream x = new MachinesDream();
        due.is("text() of an empty tape", x.text(), 0);
        due.is("fault(0)", x.fault(0), 0);
        due.is("fault(1)", x.fault(1), -1);
        Due.tape(x, "lift 9;");
        due.is("text() with a fault", x.text(), -1);
        due.is("about(8): the tape is empty then", x.about(8), 0);
        due.is("about(1)", x.about(1), 1);
        Due.tape(x, "lift 1;");
        due.is("text()", x.text(), 1);
        due.is("about(8)", x.about(8), 0);
        due.is("text() of blanks", Due.text(x, " \n  \n"), 2);
        due.is("text()", Due.text(x, "night 1;"), 3);
        due.is("about(1)", x.about(1), 4);
        Due.tape(x, "foo;");
        due.is("text(), the fifth", x.text(), -1);
        due.is("about(8): the tape stays", x.about(8), 4);
        due.is("fault(0): it was not read", x.fault(0), 0);
        Due.tape(x, "lift 1;");
        due.is("text(), the fifth", x.text(), -1);
        x.back();
        due.is("text()", x.text(), 0);
        String longest = "loose 1" + Due.times("+1", 146) + ";";
        due.is("length", longest.length(), 300);
        due.is("text() of 300 bytes", Due.text(x, longest), 1);
        x.machine(0, 0);
        x.by(1);
        due.is("of(0, 5)", x.of(0, 5), 10);
    }

    private static void fault() {
        due.promise("7 fault");
        MachinesDream x = new MachinesDream();
        due.is("fault(0) ahead of any", x.fault(0), -1);
        due.is("fault(1) ahead of any", x.fault(1), -1);
        Due.text(x, "lift 0; foo");
        due.is("fault(0)", x.fault(0), 1);
        due.is("fault(1)", x.fault(1), 8);
        due.is("fault(2)", x.fault(2), -1);
        due.is("fault(-1)", x.fault(-1), -1);
        due.is("fault(LOW)", x.fault(LOW), -1);
        due.is("fault(HIGH)", x.fault(HIGH), -1);
        x.back();
        due.is("fault(0): an image leaves it", x.fault(0), 1);
        Due.text(x, "lift 0;");
        due.is("fault(0)", x.fault(0), 0);
        due.is("fault(1)", x.fault(1), -1);
    }

    private static void row(String text, int number, int place) {
        due.is("the fault of " + text, Due.fault(text), number == 0 ? 0 : number * 1000 + place);
    }

    private static void misplaced() {
        due.promise("7 fault 1");
        row(";", 1, 0);
        row("  foo 1;", 1, 2);
        row("Loose 1;", 1, 0);
        row("loose", 1, 5);
        row("loose ", 1, 6);
        row("loose \n\n", 1, 8);
        row("loose;", 1, 5);
        row("loose 1", 1, 7);
        row("loose 1 1;", 1, 8);
        row("loose 1 oil;", 1, 8);
        row("loose +1;", 1, 6);
        row("loose 1+;", 1, 8);
        row("loose 1*/2;", 1, 8);
        row("loose ();", 1, 7);
        row("loose (1;", 1, 8);
        row("loose 1);", 1, 7);
        row("loose foo;", 1, 6);
        row("loose loose;", 1, 6);
        row("loose crank;", 1, 6);
        row("loose to;", 1, 6);
        row("loose not 1;", 1, 6);
        row("loose 1 & 2;", 1, 8);
        row("loose 1\t;", 1, 7);
        row("loose 1\r;", 1, 7);
        row("loose 1=1;", 1, 7);
        row("loose if 1=1 then 1 else 2;", 1, 26);
        row("loose if 1=1 then 1 end;", 1, 20);
        row("loose if 1=1 1;", 1, 13);
        row("loose if 1=1;", 1, 12);
        row("loose if 1=1 then;", 1, 17);
        row("loose if 1=1 then 1;", 1, 19);
        row("loose if 1=1 then 1 else;", 1, 24);
        row("loose if 1;", 1, 10);
        row("loose if;", 1, 8);
        row("loose digits (1;", 1, 15);
        row("loose if (1=1) then 1 else 2 end;", 1, 11);
        row("loose if 1=1=1 then 1 else 2 end;", 1, 12);
        row("loose if not (1=1) then 1 else 2 end;", 1, 15);
        row("loose if 1 < = 2 then 1 else 2 end;", 1, 13);
        row("loose if 1=1 and then 1 else 2 end;", 1, 17);
        row("loose if 1=1 or or 1=1 then 1 else 2 end;", 1, 16);
        row("loose if 1=1 not 1=1 then 1 else 2 end;", 1, 13);
        row("machine 1 2;", 1, 10);
        row("machine wear 1;", 1, 8);
        row("machine 1 wear oil;", 1, 15);
        row("strict 1 by 2;", 1, 9);
        row("slack 1 to;", 1, 10);
        row("crank 1 by;", 1, 10);
        row("crank sum by 0;", 1, 6);
        row("oil 0 to 1;", 1, 6);
        row("oil 0;", 1, 5);
        row("lift;", 1, 4);
        row("lift -1;", 1, 5);
        row("lift 0 by 0;", 1, 7);
        row("night;", 1, 5);
        row("night 1 2;", 1, 8);
        row("nights 1;", 1, 0);
        for (String letter : new String[] {"a", "z", "A", "Z"}) {
            row("loose" + letter + " 1;", 1, 0);
            row("loose 1" + letter + ";", 1, 7);
        }
        for (String sign : new String[] {"`", "{", "@", "[", ":", "!", "_", "\u00e9", "\u0000"}) {
            row("loose" + sign + " 1;", 1, 5);
            row("loose 1" + sign + ";", 1, 7);
        }
        row("lift0;;", 1, 6);
        row("to 1;", 1, 0);
        row("1;", 1, 0);
        row("sum;", 1, 0);
        row("not;", 1, 0);
    }

    private static void notTold() {
        due.promise("7 fault 2");
        row("machine 9 wear 99;", 0, 0);
        row("machine 10 wear 99;", 2, 8);
        row("machine 9 wear 100;", 2, 15);
        row("strict 9 to 110;", 0, 0);
        row("strict 10 to 110;", 2, 7);
        row("strict 9 to 111;", 2, 12);
        row("slack 9 to 110;", 0, 0);
        row("slack 10 to 110;", 2, 6);
        row("slack 9 to 111;", 2, 11);
        row("crank 9999 by 4;", 0, 0);
        row("crank 10000 by 4;", 2, 6);
        row("crank 9999 by 5;", 2, 14);
        row("oil 4 by 9;", 0, 0);
        row("oil 5 by 9;", 2, 4);
        row("oil 4 by 10;", 2, 9);
        row("lift 4;", 0, 0);
        row("lift 5;", 2, 5);
        row("night 1;", 0, 0);
        row("night 60;", 0, 0);
        row("night 0;", 2, 6);
        row("night 61;", 2, 6);
        row("loose 9999;", 0, 0);
        row("loose 10000;", 2, 6);
        row("loose 1+10000;", 2, 8);
        row("loose 00000009999;", 0, 0);
        row("lift 0000000000004;", 0, 0);
        row("loose 99999999999999999999999;", 2, 6);
        row("lift 4294967296;", 2, 5);
        row("loose 42949672960;", 2, 6);
    }

    private static void tooDeep() {
        due.promise("7 fault 3");
        row("loose ((((((((1))))))));", 0, 0);
        row("loose (((((((((1)))))))));", 3, 14);
        row("loose --------1;", 0, 0);
        row("loose ---------1;", 3, 14);
        row("loose 1---------1;", 0, 0);
        row("loose 1----------1;", 3, 16);
        row("loose digits digits digits digits digits digits digits digits 1;", 0, 0);
        row("loose digits digits digits digits digits digits digits digits digits 1;", 3, 62);
        row("loose sums sums sums sums sums sums sums sums 1;", 0, 0);
        row("loose -(digits(sums(-(-(1;", 3, 22);
        row("loose " + Due.times("if 1=1 then 1 else ", 8) + "1" + Due.times(" end", 8) + ";", 0, 0);
        row("loose " + Due.times("if 1=1 then 1 else ", 8) + "(", 3, 6 + 8 * 19);
        row("loose " + Due.times("if ", 8) + "-", 3, 6 + 8 * 3);
        row("loose " + Due.times("if ", 9), 3, 6 + 8 * 3);
        row("loose if " + Due.times("not ", 7) + "1=1 then ((((((1)))))) else 2 end;", 0, 0);
        row("loose if " + Due.times("not ", 8), 3, 9 + 7 * 4);
        row("loose if " + Due.times("not ", 7) + "(", 3, 9 + 7 * 4);
        // They close again.
        row("loose " + Due.times("(1)+", 20) + "((((((((1))))))));", 0, 0);
        row("loose if not not not 1=1 and not not not 1=1 then (((((((1))))))) else -1 end+--------1;", 0, 0);
        row("loose -1+-1+-1+-1+-1+-1+-1+-1+-1+-1;", 0, 0);
        row("loose digits 1*digits 1*digits 1*digits 1*digits 1*digits 1*digits 1*digits 1*digits 1;", 0, 0);
        row("loose if " + Due.times("not 1=1 and ", 9) + "1=1 then 1 else 2 end;", 0, 0);
        // And from one clause to the next.
        row("loose ((((((((1))))))));wears --------1;believes ((((((((1))))))));", 0, 0);
    }

    /** Of the faults of one token the least. */
    private static void severalAtOne() {
        due.promise("7 faults 4 to 6, and several at one token");
        String full = Due.times("lift 0;", 24);
        row(full, 0, 0);
        row(full + "lift 0;", 6, 168);
        row(full + " \n night", 6, 171);
        row(full + "machine 10", 6, 168);
        row(full + "foo", 1, 168);
        row(full + ";", 1, 168);
        row("loose 1;" + Due.times("lift 0;", 23) + "loose 1;", 4, 169);
        row("loose 1;" + Due.times("lift 0;", 23) + "wears 1;", 6, 169);
        row("loose 1;" + Due.times("lift 0;", 23), 0, 0);
        row("loose 1;loose", 4, 8);
        row("believes 1;believes 2;", 4, 11);
        row("wears 1; wears", 4, 9);
        row("loose 1;believes 1;wears 1;", 0, 0);
        row("loose 1;believes 1;wears 1;believes 2;", 4, 27);
        row("loose long;", 5, 6);
        row("loose same;", 5, 6);
        row("wears same;", 5, 6);
        row("wears long;", 0, 0);
        row("believes long;", 0, 0);
        row("believes same;", 0, 0);
        row("believes 1;wears same;", 5, 17);
        row("loose 1 long;", 1, 8);
        row("loose (1+long);", 5, 9);
        row("loose night+brass+wear+oil+sum+who;", 0, 0);
        row("loose 1 10000;", 1, 8);
        row("lift 10000", 2, 5);
        row("10000", 1, 0);
        row("loose ((((((((1(", 1, 15);
        row("loose ((((((((1 not", 1, 16);
        row("lift 5 foo", 2, 5);
        row("foo lift 5", 1, 0);
    }

    private static void fine() {
        due.promise("6 text, without fault");
        row("loose1;", 0, 0);
        row("loose\n1\n;\n", 0, 0);
        row("night2;lift0;", 0, 0);
        row("crank 12 by 0;crank12by0;", 0, 0);
        row("loose(1)*-2/3--4;", 0, 0);
        row("loose if 1<=2 and 1>=2 or 1<2 and 1>2 or 1=2 and 1#2 then 1 else 2 end;", 0, 0);
        row("loose if1<=2then1else2end;", 0, 0);
        row("loose if 1<-2 then 1 else 2 end;", 0, 0);
        row("loose digits-sums-digits(1);", 0, 0);
        row("loose if if 1=1 then 2 else 3 end=2 then 1 else 2 end;", 0, 0);
    }

    private static void by() {
        due.promise("8 by");
        MachinesDream x = new MachinesDream();
        x.machine(0, 0);
        due.no("by(0) of none", x.by(0));
        due.yes("by(-1)", x.by(-1));
        Due.text(x, "loose 7;");
        Due.text(x, "believes 9;wears 3;");
        due.no("by(2)", x.by(2));
        due.no("by(-2)", x.by(-2));
        due.no("by(LOW)", x.by(LOW));
        due.no("by(HIGH)", x.by(HIGH));
        due.is("about(2)", x.about(2), -1);
        int[][] laws = {{0, 2, 1}, {7, 2, 1}, {0, 9, 3}};
        for (int t = -1; t < 2; t++) {
            due.yes("by(" + t + ")", x.by(t));
            due.is("about(2)", x.about(2), t);
            for (int law = 0; law < 3; law++) {
                due.is("of(0, " + (5 + law) + ") by " + t, x.of(0, 5 + law), laws[t + 1][law]);
            }
        }
        due.no("by(4)", x.by(4));
        due.is("about(2)", x.about(2), 1);
    }

    /** The value of a SUM, for which the law itself, held to 0 .. 10, is 5 exactly if it is due. */
    private static void value(String sum, int want) {
        MachinesDream x = new MachinesDream();
        x.machine(7, 21);
        x.machine(4, 43);
        x.crank(0, 305);
        x.crank(1, 9078);
        x.oil(1, 6);
        x.night(1);
        x.crank(1, 1);
        String size = want < 0 ? "-" + -want : "" + want;
        String parts = Math.abs(want) <= 9999 ? size
                : (want < 0 ? "-" : "") + "(" + Math.abs(want) / 1000 + "*1000+" + Math.abs(want) % 1000 + ")";
        int t = Due.text(x, "believes if (" + sum + ")=" + parts + " then 5 else 4 end;");
        due.is("text " + sum, t, 0);
        x.by(0);
        due.is("whether " + sum + " is " + want, x.of(1, 6), 5);
    }

    private static void values() {
        due.promise("II: what a SUM is");
        value("1+2*3", 7);
        value("(1+2)*3", 9);
        value("10-3-4", 3);
        value("100/7/2", 7);
        value("100/7*7", 98);
        value("7*100/8", 87);
        value("-7/2", -3);
        value("7/-2", -3);
        value("-7/-2", 3);
        value("5/0", 0);
        value("-5/0+1", 1);
        value("2--3", 5);
        value("--3", 3);
        value("-2*3", -6);
        value("1000*1000", 1000000);
        value("1000*1000+1", 1000000);
        value("1000*1000+1-1", 999999);
        value("9999*9999", 1000000);
        value("9999*9999*9999", 1000000);
        value("-9999*9999", -1000000);
        value("-1000*1000-1", -1000000);
        value("-1000*1000-1+1", -999999);
        value("9999*9999*-9999", -1000000);
        value("9999*9999/1000", 1000);
        value("digits 1989", 27);
        value("digits -1989", 27);
        value("digits (1989+1)", 19);
        value("digits 0", 0);
        value("digits (-1000*1000)", 1);
        value("digits 99*2", 36);
        value("digits digits 1989", 9);
        value("sums 2", 0);
        value("sums -1", 0);
        value("sums (1000*1000)", 0);
        value("sums 0+1", value0() + 1);
        value("if 1<2 then 3 else 4 end", 3);
        value("if 2<2 then 3 else 4 end", 4);
        value("if 2<=2 then 3 else 4 end", 3);
        value("if 3<=2 then 3 else 4 end", 4);
        value("if 2>1 then 3 else 4 end", 3);
        value("if 2>2 then 3 else 4 end", 4);
        value("if 2>=2 then 3 else 4 end", 3);
        value("if 1>=2 then 3 else 4 end", 4);
        value("if 2=2 then 3 else 4 end", 3);
        value("if 1=2 then 3 else 4 end", 4);
        value("if 1#2 then 3 else 4 end", 3);
        value("if 2#2 then 3 else 4 end", 4);
        value("if not 1=2 then 3 else 4 end", 3);
        value("if not not 1=2 then 3 else 4 end", 4);
        value("if 1=1 or 1=2 and 1=2 then 3 else 4 end", 3);
        value("if 1=2 and 1=2 or 1=1 then 3 else 4 end", 3);
        value("if 1=2 and 1=1 then 3 else 4 end", 4);
        value("if 1=1 and 1=2 then 3 else 4 end", 4);
        value("if 1=1 and 1=1 then 3 else 4 end", 3);
        value("if 1=2 or 1=2 then 3 else 4 end", 4);
        value("if 1=2 or 1=1 then 3 else 4 end", 3);
        value("if 1=1 or 1=1 then 3 else 4 end", 3);
        value("if not 1=1 or 1=1 then 3 else 4 end", 3);
        value("if not 1=2 and 1=2 then 3 else 4 end", 4);
        for (String holds : new String[] {"1<2", "1<=1", "2>1", "1>=1", "1=1", "1#2", "not 1=2"}) {
            for (String also : new String[] {"1<2", "1<=1", "2>1", "1>=1", "1=1", "1#2", "not 1=2"}) {
                value("if " + holds + " and " + also + " then 3 else 4 end", 3);
                value("if not " + holds + " or not " + also + " then 3 else 4 end", 4);
                value("if " + holds + " or not " + also + " then 3 else 4 end", 3);
            }
        }
        value("if 1+1=2*1 then 3+4 else 4 end*2", 14);
        value("1+if 1=2 then 3 else if 1=1 then 5 else 6 end end+1", 7);
        value("if 1=1 then if 1=2 then 1 else 2 end else 3 end", 2);
    }

    /** SUM of the first machine in the run of value. */
    private static int value0() {
        MachinesDream x = new MachinesDream();
        x.machine(7, 21);
        x.machine(4, 43);
        x.crank(0, 305);
        x.crank(1, 9078);
        x.oil(1, 6);
        x.night(1);
        return x.of(0, 3);
    }

    private static void names() {
        due.promise("II: NAMES");
        MachinesDream x = new MachinesDream();
        x.machine(7, 21);
        x.machine(4, 43);
        x.crank(1, 9078);
        x.oil(1, 6);
        x.night(1);
        String[] names = {"night", "brass", "wear", "oil", "sum", "who", "long", "sums who", "sums(1-who)"};
        int[] values = {1, 4, x.of(1, 1), 5, x.of(1, 3), 1, x.of(1, 4), x.of(1, 3), x.of(0, 3)};
        x.image();
        for (int i = 0; i < names.length; i++) {
            due.is("text()", Due.text(x, "believes if " + names[i] + "=" + values[i] + " then 5 else 4 end;"), 0);
            x.by(0);
            due.is(names[i], x.of(1, 6), 5);
            x.back();
        }
        same();
    }

    private static void same() {
        MachinesDream x = new MachinesDream();
        Due.text(x, "believes same;loose 0;wears long;");
        x.by(0);
        x.machine(0, 0);
        due.is("same without a roll", x.of(0, 6), 0);
        x.night(1);
        due.is("same of 0 and a digit", x.of(0, 6), 1);
        due.is("of(0, 1)", x.of(0, 1), 1);
        x.crank(0, 10);
        due.is("same of two digits and one", x.of(0, 6), 0);
        x.night(1);
        due.is("same", x.of(0, 6), 1);
        due.is("of(0, 7)", x.of(0, 7), 2);
        due.is("of(0, 1)", x.of(0, 1), 4);
        x.rule(1, false, 0);
        x.night(1);
        due.is("same of two digits and one", x.of(0, 6), 0);
    }

    private static void played() {
        due.promise("13 played");
        MachinesDream x = new MachinesDream();
        due.is("played(0) of none", x.played(0), -2);
        Due.text(x, "machine 3 wear 97;loose 10;strict 5 to 45;slack 5 to 99;crank 15 by 0;oil 0 by 7;night 2;lift 0;");
        due.is("played(1)", x.played(1), -2);
        due.is("played(-1)", x.played(-1), -2);
        due.is("played(LOW)", x.played(LOW), -2);
        due.is("played(HIGH)", x.played(HIGH), -2);
        due.is("played(0)", x.played(0), -1);
        due.is("of(0, 0)", x.of(0, 0), 3);
        due.is("of(0, 1)", x.of(0, 1), 98);
        due.is("of(0, 2)", x.of(0, 2), 5);
        due.is("is(0)", x.is(0), 2);
        due.is("told(5, false)", x.told(5, false), 45);
        due.is("told(5, true)", x.told(5, true), 99);
        due.is("about(2): its laws don't rule by that", x.about(2), -1);
        due.is("blank()", x.blank(), 1);
        due.is("about(3): each is a step", x.about(3), 5);
        // Again: machine 0 is cranked to 99, and machine 1 is told.
        due.is("played(0)", x.played(0), -1);
        due.is("about(0)", x.about(0), 2);
        due.is("of(0, 1)", x.of(0, 1), 99);
        due.is("played(0): it can't be cranked", x.played(0), 4);
        due.is("about(0): what was done stays", x.about(0), 3);
        x.played(0);
        x.played(0);
        due.is("about(0)", x.about(0), 5);
        due.is("played(0): no sixth", x.played(0), 0);
        due.is("text()", Due.text(x, "wears 1;believes 1;oil 1 by 3;lift 1;lift 1;oil 1 by 9;"), 1);
        due.is("played(1): no roll any more", x.played(1), 4);
        due.is("of(1, 2)", x.of(1, 2), 3);
        due.is("played(1): none at all", x.played(1), 3);
        x.night(1);
        due.is("played(1)", x.played(1), 4);
        due.is("text()", Due.text(x, ""), 2);
        due.is("played(2) of nothing", x.played(2), -1);
        x.back();
        due.is("text()", Due.text(x, "oil 0 by 1;"), 0);
        due.is("played(0): no machine", x.played(0), 0);
        x.back();
        due.is("text()", Due.text(x, "machine 0 wear 0;crank 5 by 0;crank 5 by 1;"), 0);
        due.is("played(0): no machine 1", x.played(0), 2);
        due.is("of(0, 3)", x.of(0, 3), 5);
        due.is("of(0, 1)", x.of(0, 1), 1);
    }

    private static void playedUpToTheEnd() {
        MachinesDream x = new MachinesDream();
        for (int i = 0; i < 166; i++) {
            x.night(60);
        }
        x.night(36);
        Due.text(x, "machine 0 wear 0;night 1;oil 0 by 3;night 60;oil 0 by 9;");
        due.is("played(0)", x.played(0), 3);
        due.is("is(0): those that can pass do", x.is(0), 9999);
        due.is("of(0, 2)", x.of(0, 2), 1);
        due.is("undo()", x.undo(), 29);
        due.is("is(0)", x.is(0), 9998);
        due.is("text()", Due.text(x, "night 1;"), 1);
        due.is("played(1)", x.played(1), -1);
        due.is("played(1)", x.played(1), 0);
        Due.text(x, "");
        Due.text(x, "");
        due.is("played(3)", x.played(3), -1);
        due.is("played(4)", x.played(4), -2);
        due.no("by(4)", x.by(4));
        due.yes("by(3)", x.by(3));
    }
}
