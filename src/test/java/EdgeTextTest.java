import java.util.List;

/** The boundary cases of the tape and of reading it, promises 4 to 7 and II: each sentence has a test of its own. */
public final class EdgeTextTest {
    private static final int LOW = Due.LOW;
    private static final int HIGH = Due.HIGH;
    private static final String ONE = "1 night brass wear oil sum who ( - digits sums if";
    private static final String ALL_TOKENS = "loose believes wears machine strict slack crank lift oil night brass wear sum who"
            + " long same to by digits sums if then else end or and not 1 < <= > >= = # + - * / ( ) ; foo Loose LOOSE $ ! : , &"
            + " . ' | ~ [ { ^ @ _";
    private static final Due due = new Due();

    public static void main(String[] args) {
        feedUpTo300();
        feedHighestFirst();
        endRange();
        endKeepsTheFirst();
        textsUpToFour();
        tapeIsEmptyThen();
        tapeStays();
        textOf300Bytes();
        textsOneByOne();
        emptyTexts();
        faultAheadOfAny();
        faultWhatRange();
        faultOfTheLatestRead();
        blanksAre32And10();
        lettersAreOneToken();
        digitsAreOneToken();
        theLongestSign();
        whatCanStandWhere();
        theEndCanStandWhere();
        numbersUpTo9999();
        rangesOfNumbers();
        numbersWithZerosAhead();
        ninthOpen();
        openOnesClose();
        minusOfTwoOpensNothing();
        secondTime();
        namesOfClauses();
        clause25();
        theFirstTokenFirst();
        atTheFirstByte();
        ofOneTheLeast();
        due.finish("EdgeTextTest");
    }

    private static void row(String text, int number, int place) {
        due.is("the fault of <" + text + ">", Due.fault(text), number == 0 ? 0 : number * 1000 + place);
    }

    private static void feedUpTo300() {
        due.promise("4: NONE, and none come, if there would be more than 300");
        MachinesDream x = new MachinesDream();
        for (int n = 20; n <= 300; n += 20) {
            due.is("feed", x.feed(LOW, HIGH, -1, 0, 1), n);
        }
        due.is("feed at 300", x.feed(0, 0, 0, 0, 0), -1);
        due.is("about(8)", x.about(8), 300);
        x.end(281);
        due.is("feed at 281", x.feed(0, 0, 0, 0, 0), -1);
        due.is("about(8)", x.about(8), 281);
        x.end(280);
        due.is("feed at 280", x.feed(0, 0, 0, 0, 0), 300);
        x.end(0);
        due.is("feed at 0", x.feed(0, 0, 0, 0, 0), 20);
    }

    private static void feedHighestFirst() {
        due.promise("4: twenty bytes, the highest of a first");
        for (int k = 0; k < 20; k++) {
            MachinesDream x = new MachinesDream();
            // A sign that is no token, one byte after the other: its place is told.
            int[] five = {0x20202020, 0x20202020, 0x20202020, 0x20202020, 0x20202020};
            five[k / 4] ^= (0x20 ^ 0xff) << 8 * (3 - k % 4);
            x.feed(five[0], five[1], five[2], five[3], five[4]);
            due.is("text()", x.text(), -1);
            due.is("the place of byte " + k, x.fault(1), k);
            due.is("its fault", x.fault(0), 1);
        }
        MachinesDream x = new MachinesDream();
        x.feed(0x6c696674, 0x20303b20, 0x0a0a0a0a, 0x6f696c20, 0x31206279);
        x.feed(0x20323b20, 0x20202020, 0x20202020, 0x20202020, 0x20202020);
        due.is("behind the tape", x.text(), 0);
    }

    private static void endRange() {
        due.promise("5: NONE, and nothing is done, if it has not so many, or n is below 0");
        MachinesDream x = new MachinesDream();
        due.is("end(0) of none", x.end(0), 0);
        due.is("end(1) of none", x.end(1), -1);
        x.feed(1, 2, 3, 4, 5);
        for (int n : new int[] {-1, 21, 300, LOW, HIGH}) {
            due.is("end(" + n + ")", x.end(n), -1);
            due.is("about(8)", x.about(8), 20);
        }
        due.is("end(20)", x.end(20), 20);
        due.is("end(19)", x.end(19), 19);
        due.is("end(20): gone", x.end(20), -1);
        due.is("about(8)", x.about(8), 19);
        due.is("end(0)", x.end(0), 0);
        due.is("about(8)", x.about(8), 0);
    }

    private static void endKeepsTheFirst() {
        due.promise("5: its first n bytes alone");
        MachinesDream x = new MachinesDream();
        Due.tape(x, "lift 0;foo");
        due.is("end(7)", x.end(7), 7);
        due.is("text()", x.text(), 0);
        Due.tape(x, "lift 0;foo");
        due.is("end(8)", x.end(8), 8);
        due.is("text()", x.text(), -1);
        due.is("fault(1)", x.fault(1), 7);
        // What comes behind comes at its place.
        Due.tape(x, "lift 5 5 5 5 5 5 5 5 5 5");
        x.end(5);
        x.feed(0x303b2020, 0x20202020, 0x20202020, 0x20202020, 0x20202020);
        due.is("text()", x.text(), 1);
    }

    private static void textsUpToFour() {
        due.promise("6: its number; NONE: there are 4");
        MachinesDream x = new MachinesDream();
        for (int k = 0; k < 4; k++) {
            due.is("text()", Due.text(x, "lift " + k + ";"), k);
            due.is("about(1)", x.about(1), k + 1);
        }
        due.is("the fifth", Due.text(x, "lift 4;"), -1);
        due.is("about(1)", x.about(1), 4);
    }

    private static void tapeIsEmptyThen() {
        due.promise("6: the tape (empty then)");
        MachinesDream x = new MachinesDream();
        Due.tape(x, "lift 1;");
        due.is("text()", x.text(), 0);
        due.is("about(8)", x.about(8), 0);
        Due.tape(x, "lift 7;");
        due.is("text() with a fault", x.text(), -1);
        due.is("about(8)", x.about(8), 0);
        due.is("about(1)", x.about(1), 1);
    }

    private static void tapeStays() {
        due.promise("6: (the tape stays) there are 4");
        MachinesDream x = new MachinesDream();
        for (int k = 0; k < 3; k++) {
            Due.text(x, "");
        }
        Due.tape(x, "lift 1;");
        due.is("the fourth", x.text(), 3);
        due.is("about(8)", x.about(8), 0);
        Due.tape(x, "lift 1;");
        due.is("the fifth", x.text(), -1);
        due.is("about(8)", x.about(8), 7);
        due.is("end(7)", x.end(7), 7);
        x.back();
        due.is("it is a text yet", x.text(), 0);
    }

    private static void textOf300Bytes() {
        due.promise("II: TEXTS of up to 300 bytes");
        row("loose " + Due.times("1+", 146) + "1;", 0, 0);
        row("loose " + Due.times("1+", 146) + "1", 1, 299);
        row("loose " + Due.times("1+", 147), 1, 300);
        row(Due.times(" ", 293) + "lift 4;", 0, 0);
        row(Due.times(" ", 293) + "lift 5;", 2, 298);
        row(Due.times(" ", 299) + ";", 1, 299);
    }

    /** What was read ahead, with a fault or without, leaves nothing behind. */
    private static void textsOneByOne() {
        due.promise("6: the tape is a TEXT: it alone");
        MachinesDream x = new MachinesDream();
        x.machine(0, 0);
        String sum = "0" + Due.times("+0", 140);
        for (int k = 0; k < 5; k++) {
            due.is("with a fault", Due.text(x, "loose " + sum + " 1"), -1);
            due.is("open ones", Due.text(x, "loose ((((((((1"), -1);
            due.is("clauses", Due.text(x, Due.times("lift 0;", 24) + "lift 0;"), -1);
        }
        for (int t = 0; t < 4; t++) {
            due.is("without", Due.text(x, "wears " + sum + "+" + (t + 3) + ";"), t);
        }
        for (int t = 0; t < 4; t++) {
            x.by(t);
            due.is("of(0, 7) by " + t, x.of(0, 7), t + 3);
            due.is("of(0, 5) by " + t, x.of(0, 5), 0);
            due.is("of(0, 6) by " + t, x.of(0, 6), 2);
            due.is("played(" + t + ")", x.played(t), -1);
        }
    }

    private static void emptyTexts() {
        due.promise("II: {CLAUSE}: none at all too");
        row("", 0, 0);
        row(" \n ", 0, 0);
        row(Due.times("\n", 300), 0, 0);
        row(";", 1, 0);
    }

    private static void faultAheadOfAny() {
        due.promise("7: NONE ahead of any");
        MachinesDream x = new MachinesDream();
        Due.tape(x, "foo");
        due.is("fault(0)", x.fault(0), -1);
        due.is("fault(1)", x.fault(1), -1);
        x.end(0);
        x.text();
        due.is("fault(0)", x.fault(0), 0);
        due.is("fault(1)", x.fault(1), -1);
    }

    private static void faultWhatRange() {
        due.promise("7: 0 its FAULT (0 without), 1 its place (NONE without); NONE for others");
        MachinesDream x = new MachinesDream();
        Due.text(x, "lift 5;");
        due.is("fault(0)", x.fault(0), 2);
        due.is("fault(1)", x.fault(1), 5);
        for (int what : new int[] {-1, 2, LOW, HIGH}) {
            due.is("fault(" + what + ")", x.fault(what), -1);
        }
        Due.text(x, "lift 4;");
        due.is("fault(0)", x.fault(0), 0);
        due.is("fault(1)", x.fault(1), -1);
        due.is("fault(2)", x.fault(2), -1);
    }

    private static void faultOfTheLatestRead() {
        due.promise("7: of the latest text that was read");
        MachinesDream x = new MachinesDream();
        Due.text(x, "");
        Due.text(x, "foo");
        due.is("fault(0)", x.fault(0), 1);
        Due.text(x, " lift 9;");
        due.is("fault(0)", x.fault(0), 2);
        due.is("fault(1)", x.fault(1), 6);
        Due.text(x, "");
        Due.text(x, "");
        Due.text(x, "");
        due.is("fault(0)", x.fault(0), 0);
        due.is("text()", Due.text(x, "foo"), -1);
        due.is("the fifth is not read", x.fault(0), 0);
    }

    private static void blanksAre32And10() {
        due.promise("II: blanks (32, 10) aside");
        for (int sign = 0; sign < 256; sign++) {
            boolean blank = sign == 32 || sign == 10;
            String text = "lift 0;" + (char) sign;
            if (blank) {
                row(text, 0, 0);
                row((char) sign + "lift" + (char) sign + (char) sign + "0" + (char) sign + ";", 0, 0);
            } else {
                row(text, 1, 7);
            }
        }
    }

    private static void lettersAreOneToken() {
        due.promise("II: letters a .. z, A .. Z one behind the other (one TOKEN)");
        for (int sign = 0; sign < 256; sign++) {
            boolean letter = sign >= 'a' && sign <= 'z' || sign >= 'A' && sign <= 'Z';
            boolean goesOn = sign == 32 || sign == 10 || sign == '(' || sign == '-' || sign >= '0' && sign <= '9';
            if (letter) {
                row("loose" + (char) sign + "1;", 1, 0);
                row((char) sign + "loose 1;", 1, 0);
            } else if (goesOn) {
                due.is("loose and " + sign, Due.fault("loose" + (char) sign + "1;") == 1005 ? 1 : 0, 0);
            } else {
                row("loose" + (char) sign + "1;", 1, 5);
            }
        }
        row("loos e1;", 1, 0);
        row("lift0;", 0, 0);
        row("LIFT 0;", 1, 0);
        row("lifT 0;", 1, 0);
    }

    private static void digitsAreOneToken() {
        due.promise("II: digits likewise");
        row("loose 12;", 0, 0);
        row("loose 1 2;", 1, 8);
        row("loose 1\n2;", 1, 8);
        for (char digit = '0'; digit <= '9'; digit++) {
            row("loose 1" + digit + ";", 0, 0);
            row("loose " + digit + ";", 0, 0);
        }
        row("loose 1/2;", 0, 0);
        row("loose 1:2;", 1, 7);
        row("night12;night60;", 0, 0);
        row("loose 1a;", 1, 7);
    }

    private static void theLongestSign() {
        due.promise("II: <= >= < > = # .. (the longest)");
        String[] fine = {"<", "<=", ">", ">=", "=", "#"};
        for (String sign : fine) {
            row("loose if 1" + sign + "2 then 1 else 2 end;", 0, 0);
        }
        row("loose if 1< =2 then 1 else 2 end;", 1, 12);
        row("loose if 1> =2 then 1 else 2 end;", 1, 12);
        row("loose if 1=<2 then 1 else 2 end;", 1, 11);
        row("loose if 1=>2 then 1 else 2 end;", 1, 11);
        row("loose if 1<>2 then 1 else 2 end;", 1, 11);
        row("loose if 1==2 then 1 else 2 end;", 1, 11);
        row("loose if 1<==2 then 1 else 2 end;", 1, 12);
        row("loose if 1<<2 then 1 else 2 end;", 1, 11);
        row("loose if 1##2 then 1 else 2 end;", 1, 11);
        row("loose 1**2;", 1, 8);
        row("loose 1//2;", 1, 8);
        row("loose 1++2;", 1, 8);
        row("loose 1--2;", 0, 0);
        row("loose if 1<-2 then 1 else 2 end;", 0, 0);
    }

    /** Behind a beginning just these tokens can stand; every other is fault 1, at its place. */
    private static void stands(String beginning, String allowed) {
        List<String> can = List.of(allowed.split(" "));
        for (String token : ALL_TOKENS.split(" ")) {
            int fault = Due.fault(beginning + " " + token + " ");
            int misplaced = 1000 + beginning.length() + 1;
            boolean isName = token.equals("long") || token.equals("same");
            if (can.contains(token)) {
                due.is("<" + beginning + "> and " + token, fault == misplaced ? 1 : 0, 0);
            } else if (isName && can.contains("who")) {
                due.is("<" + beginning + "> and " + token, fault, 5000 + beginning.length() + 1);
            } else {
                due.is("<" + beginning + "> and " + token, fault, misplaced);
            }
        }
    }

    private static void whatCanStandWhere() {
        due.promise("II: FAULT 1: it can't stand there, or is none");
        String more = "+ - * / ";
        String signs = "< <= > >= = #";
        String clauses = "loose believes wears machine strict slack crank oil lift night";
        stands("", clauses);
        stands("lift 0 ;", clauses);
        stands("loose", ONE);
        stands("loose 1", more + ";");
        stands("loose night", more + ";");
        stands("loose 1 + 1", more + ";");
        stands("loose 1 * 1", more + ";");
        for (String sign : new String[] {"+", "-", "*", "/", "(", "digits", "sums", "- -", "1 * -"}) {
            stands("loose " + (sign.length() == 1 && "+*/".contains(sign) ? "1 " : "") + sign, ONE);
        }
        stands("loose ( 1", more + ")");
        stands("loose ( 1 )", more + ";");
        stands("loose - 1", more + ";");
        stands("loose digits 1", more + ";");
        stands("loose ( digits 1", more + ")");
        stands("loose if", ONE + " not");
        stands("loose if not", ONE + " not");
        stands("loose if 1", more + signs);
        stands("loose if not 1", more + signs);
        stands("loose if ( 1 )", more + signs);
        for (String sign : signs.split(" ")) {
            stands("loose if 1 " + sign, ONE);
        }
        stands("loose if 1 = 1", more + "and or then");
        stands("loose if not 1 = 1", more + "and or then");
        stands("loose if 1 = 1 and", ONE + " not");
        stands("loose if 1 = 1 or", ONE + " not");
        stands("loose if 1 = 1 and 1", more + signs);
        stands("loose if 1 = 1 or 1 = 1", more + "and or then");
        stands("loose if 1 = 1 then", ONE);
        stands("loose if 1 = 1 then 1", more + "else");
        stands("loose if 1 = 1 then 1 else", ONE);
        stands("loose if 1 = 1 then 1 else 1", more + "end");
        stands("loose if 1 = 1 then 1 else 1 end", more + ";");
        for (String law : new String[] {"believes", "wears"}) {
            stands(law + " 1", more + ";");
        }
        orders();
    }

    private static void orders() {
        String[][] forms = {{"machine", "1", "wear", "1", ";"}, {"strict", "1", "to", "1", ";"},
            {"slack", "1", "to", "1", ";"}, {"crank", "1", "by", "1", ";"}, {"oil", "1", "by", "1", ";"},
            {"lift", "1", ";"}, {"night", "1", ";"}};
        for (String[] form : forms) {
            String beginning = form[0];
            for (int k = 1; k < form.length; k++) {
                stands(beginning, form[k]);
                beginning += " " + form[k];
            }
            row(beginning, 0, 0);
        }
    }

    private static void theEndCanStandWhere() {
        due.promise("II: of the end at the length");
        String whole = "loose if not 1 = ( 2 ) and 1 < - 3 or digits 4 # sums 5 then 6 else 7 end ; machine 1 wear 2 ;"
                + " strict 3 to 4 ; slack 5 to 6 ; crank 7 by 1 ; oil 2 by 3 ; lift 4 ; night 5 ;";
        String[] tokens = whole.split(" ");
        String beginning = "";
        for (String token : tokens) {
            beginning += token;
            boolean ended = token.equals(";");
            row(beginning, ended ? 0 : 1, beginning.length());
            beginning += " ";
            row(beginning, ended ? 0 : 1, beginning.length());
            row(beginning + "\n ", ended ? 0 : 1, beginning.length() + 2);
        }
    }

    private static void numbersUpTo9999() {
        due.promise("II: FAULT 2: a NUMBER above 9999");
        row("loose 9999;", 0, 0);
        row("loose 10000;", 2, 6);
        row("loose 10001;", 2, 6);
        row("loose 99999;", 2, 6);
        row("loose 65536;", 2, 6);
        row("loose 4294967296;", 2, 6);
        row("loose 18446744073709551616;", 2, 6);
        row("loose " + Due.times("9", 290) + ";", 2, 6);
        row("wears 1+(2*10000);", 2, 11);
        row("believes if 10000=1 then 1 else 2 end;", 2, 12);
        row("believes if 1=1 then 1 else 10000 end;", 2, 28);
        row("loose -9999;", 0, 0);
        row("loose -10000;", 2, 7);
        row("loose sums 10000;", 2, 11);
        row("loose sums 9999;", 0, 0);
    }

    private static void range(String form, int least, int most) {
        int place = form.indexOf('N');
        row(form.replace("N", "" + least), 0, 0);
        row(form.replace("N", "" + most), 0, 0);
        row(form.replace("N", "" + (most + 1)), 2, place);
        row(form.replace("N", "10000"), 2, place);
        row(form.replace("N", "99999999999"), 2, place);
        if (least > 0) {
            row(form.replace("N", "" + (least - 1)), 2, place);
        }
        row(form.replace("N", "-1"), 1, place);
    }

    private static void rangesOfNumbers() {
        due.promise("II: FAULT 2: BRASS, digits, OIL 0 .. 9, WEAR 0 .. 99, WORDS 0 .. 110, MACHINES 0 .. 4, NIGHTS 1 .. 60");
        range("machine N wear 0;", 0, 9);
        range("machine 0 wear N;", 0, 99);
        range("strict N to 0;", 0, 9);
        range("strict 0 to N;", 0, 110);
        range("slack N to 0;", 0, 9);
        range("slack 0 to N;", 0, 110);
        range("crank N by 0;", 0, 9999);
        range("crank 0 by N;", 0, 4);
        range("oil N by 0;", 0, 4);
        range("oil 0 by N;", 0, 9);
        range("lift N;", 0, 4);
        range("night N;", 1, 60);
    }

    private static void numbersWithZerosAhead() {
        due.promise("II: NUMBERS 0 .. 9999, by their value");
        row("loose 0000000000000009999;", 0, 0);
        row("loose 00000000000000010000;", 2, 6);
        row("lift 000004;", 0, 0);
        row("lift 000005;", 2, 5);
        row("night 00;", 2, 6);
        row("night 060;", 0, 0);
        row("night 061;", 2, 6);
        row("loose 000;", 0, 0);
    }

    private static void ninthOpen() {
        due.promise("II: FAULT 3: the 9th of ( not digits sums if and - that are open around one another (at it)");
        String[] openers = {"( ", "digits ", "sums ", "- ", "if "};
        for (String opener : openers) {
            String eight = "loose " + Due.times(opener, 8);
            row(eight + "1", 1, eight.length() + 1);
            for (String ninth : openers) {
                row(eight + ninth + "1", 3, eight.length());
            }
            String seven = "loose " + Due.times(opener, 7);
            for (String eighth : openers) {
                row(seven + eighth + "1", 1, seven.length() + eighth.length() + 1);
            }
        }
        String nots = "loose if " + Due.times("not ", 7);
        row(nots + "1=1 then 1 else 2 end;", 0, 0);
        row(nots + "not 1=1 then 1 else 2 end;", 3, nots.length());
        row(nots + "(1)=1 then 1 else 2 end;", 3, nots.length());
        row(nots + "1=-1 then 1 else 2 end;", 3, nots.length() + 2);
        row("loose (-digits sums(-digits sums 1));", 0, 0);
        row("loose (-digits sums(-digits sums -1));", 3, 33);
        row("loose (-digits sums(-digits sums oil));", 0, 0);
    }

    private static void openOnesClose() {
        due.promise("II: FAULT 3: those that are open");
        row("loose " + Due.times("(1)+", 9) + "1;", 0, 0);
        row("loose " + Due.times("-1+", 9) + "1;", 0, 0);
        row("loose " + Due.times("digits 1*", 9) + "1;", 0, 0);
        row("loose " + Due.times("sums 1/", 9) + "1;", 0, 0);
        row("loose " + Due.times("if 1=1 then 1 else 2 end+", 9) + "1;", 0, 0);
        row("loose if " + Due.times("not 1=1 or ", 9) + "1=1 then 1 else 2 end;", 0, 0);
        row("loose if " + Due.times("not 1=1 and ", 9) + "not not 1=1 then 1 else 2 end;", 0, 0);
        row("loose ((((((((1))))))))+((((((((1))))))));", 0, 0);
        row("loose ((((((((1))))))))+(((((((((1)))))))));", 3, 32);
        row("loose (((((((-1-1)))))));", 0, 0);
        row("loose (((((((-1-(1))))))));", 0, 0);
        row("loose (((((((-1-((1)))))))));", 3, 17);
        row("loose if not 1=1 then ((((((((1", 3, 29);
        row("loose if not 1=1 then (((((((1)))))))+1 else (((((((1))))))) end;", 0, 0);
        row("loose if not ((((((1))))))=((((((1)))))) then 1 else 2 end;", 0, 0);
        row("loose if not (((((((1)))))))=1 then 1 else 2 end;", 3, 19);
        row("loose if not 1=(((((((1))))))) then 1 else 2 end;", 3, 21);
        row("loose if not 1=1 and (((((((1)))))))=1 then 1 else 2 end;", 0, 0);
        row("loose ((((((((1))))))));believes ((((((((1))))))));wears ((((((((1))))))));", 0, 0);
    }

    private static void minusOfTwoOpensNothing() {
        due.promise("II: FAULT 3: - (of one ONE)");
        row("loose " + Due.times("1-", 20) + "1;", 0, 0);
        row("loose ((((((((1-1-1))))))));", 0, 0);
        row("loose ((((((((1--1))))))));", 3, 16);
        row("loose 1--------1;", 0, 0);
        row("loose 1---------1;", 0, 0);
        row("loose 1----------1;", 3, 16);
        row("loose --------1;", 0, 0);
        row("loose ---------1;", 3, 14);
    }

    private static void secondTime() {
        due.promise("II: FAULT 4: loose, believes, wears for the second time (at it)");
        String[] laws = {"loose", "believes", "wears"};
        for (String one : laws) {
            for (String other : laws) {
                String first = one + " 1; ";
                row(first + other + " 1;", one.equals(other) ? 4 : 0, first.length());
                row(first + "lift 0;" + other + " 1;", one.equals(other) ? 4 : 0, first.length() + 7);
            }
        }
        row("loose 1;believes 1;wears 1;wears 1;", 4, 27);
        row("loose 1;believes 1;wears 1;loose 1;", 4, 27);
        row("lift 0;lift 0;night 1;night 1;machine 0 wear 0;machine 0 wear 0;", 0, 0);
    }

    private static void namesOfClauses() {
        due.promise("II: FAULT 5: a NAME that isn't of that CLAUSE (at it)");
        for (String name : new String[] {"night", "brass", "wear", "oil", "sum", "who"}) {
            for (String law : new String[] {"loose", "believes", "wears"}) {
                row(law + " " + name + ";", 0, 0);
            }
        }
        row("loose long;", 5, 6);
        row("wears long;", 0, 0);
        row("believes long;", 0, 0);
        row("loose same;", 5, 6);
        row("wears same;", 5, 6);
        row("believes same;", 0, 0);
        row("believes same;wears long;loose long;", 5, 31);
        row("wears 1;believes same+long;", 0, 0);
        row("believes 1;wears 1+(2-same);", 5, 22);
        row("wears if same=1 then 1 else 2 end;", 5, 9);
        row("loose if 1=1 then 1 else long end;", 5, 25);
        row("loose lonG;", 1, 6);
        row("loose longer;", 1, 6);
        row("loose foo;", 1, 6);
    }

    private static void clause25() {
        due.promise("II: FAULT 6: the 25th CLAUSE (at its first TOKEN)");
        String lifts = Due.times("lift 0;", 23);
        row(lifts + "lift 0;", 0, 0);
        for (String clause : new String[] {"lift", "night", "machine", "strict", "slack", "crank", "oil", "loose", "believes",
            "wears"}) {
            row(lifts + "lift 0;" + clause, 6, 168);
            row(lifts + "lift 0;\n\n " + clause + " 9999", 6, 171);
        }
        for (String law : new String[] {"loose 1;", "believes 1;", "wears 1;"}) {
            row(lifts + law, 0, 0);
            row(lifts + law + "lift 0;", 6, 161 + law.length());
        }
        row(Due.times("lift 0;", 21) + "loose 1;believes 1;wears 1;", 0, 0);
        row(Due.times("lift 0;", 22) + "loose 1;believes 1;wears 1;", 6, 22 * 7 + 19);
    }

    private static void theFirstTokenFirst() {
        due.promise("II: FAULTS, the first as TOKENS are come to");
        row("lift 5 foo", 2, 5);
        row("foo lift 5", 1, 0);
        row("lift 0 ! lift 5;", 1, 7);
        row("lift 5; !", 2, 5);
        row("loose long+10000;", 5, 6);
        row("loose 10000+long;", 2, 6);
        row("loose (((((((((10000", 3, 14);
        row("loose ((((((((10000+(", 2, 14);
        row("loose 1;loose long;", 4, 8);
        row("loose long;loose 1;", 5, 6);
    }

    private static void atTheFirstByte() {
        due.promise("II: at the TOKEN's first byte");
        row("lift   \n 12345 ;", 2, 9);
        row("   bogus 1;", 1, 3);
        row("loose 1  \n  then;", 1, 12);
        row("loose if 1  <=  <= 2", 1, 16);
        row("loose   long ;", 5, 8);
        row("loose 1;  loose 1;", 4, 10);
        row("lift 0;\u00ff\u00ff", 1, 7);
    }

    private static void ofOneTheLeast() {
        due.promise("II: of one the least");
        String full = Due.times("lift 0;", 24);
        row(full + "foo", 1, 168);
        row(full + "10000", 1, 168);
        row(full + ";", 1, 168);
        row(full + "(", 1, 168);
        row(full + "long", 1, 168);
        row("loose 1;" + Due.times("lift 0;", 23) + "loose", 4, 169);
        row("loose 1;" + Due.times("lift 0;", 23) + "wears", 6, 169);
        row("lift 0 10000", 1, 7);
        row("loose 1 10000", 1, 8);
        row("loose 1 long", 1, 8);
        row("loose ((((((((1 (", 1, 16);
        row("loose ((((((((1 not", 1, 16);
        row("loose (((((((( not", 1, 15);
        row("loose (((((((( loose", 1, 15);
        row("loose 1 loose", 1, 8);
        row("loose 1; lift loose", 1, 14);
        row("loose 1; lift 0 loose", 1, 16);
        row("machine 0 wear long", 1, 15);
    }
}
