/** Promises 21 to 33: the strips. */
public final class StripTest {
    private static final int LOW = Integer.MIN_VALUE;
    private static final int HIGH = Integer.MAX_VALUE;
    private static final Due due = new Due();

    public static void main(String[] args) {
        put();
        may();
        odds();
        day();
        fits();
        likeliest();
        add();
        second();
        duet();
        common();
        apart();
        grows();
        stays();
        due.finish("StripTest");
    }

    private static void put() {
        due.promise("21 put");
        MachinesDream x = new MachinesDream();
        due.is("put(-1)", x.put(-1), 0);
        for (int bad : new int[] {-2, 10, LOW, HIGH}) {
            due.is("put(" + bad + ")", x.put(bad), -2);
        }
        due.is("about(4)", x.about(4), 0);
        for (int i = 1; i <= 12; i++) {
            due.is("put(" + i % 10 + ")", x.put(i % 10), i);
        }
        due.is("put(0), the 13th", x.put(0), -2);
        due.is("about(4)", x.about(4), 12);
        due.is("about(5)", x.about(5), 0);
        due.is("put(-1)", x.put(-1), 0);
        due.is("about(4)", x.about(4), 0);
        due.is("put(9)", x.put(9), 1);
    }

    private static void may() {
        due.promise("22 may");
        MachinesDream x = Due.withStrips("111", "");
        for (int bad : new int[] {-1, 10000, LOW, HIGH}) {
            due.is("may(" + bad + ")", x.may(bad), -1);
        }
        due.is("may(11)", x.may(11), 2);
        due.is("may(111)", x.may(111), 1);
        due.is("may(1)", x.may(1), 0);
        due.is("may(1111)", x.may(1111), 0);
        x.rule(1, true, 2);
        due.is("may(111): like words are two ways", x.may(111), 8);
        x.rule(2, true, 0);
        x.rule(2, false, 0);
        due.is("may(1121): a word of none", x.may(1121), 16);
        due.is("may(2111)", x.may(2111), 16);
        Due.strips(x, "", "");
        due.is("may(2222)", x.may(2222), 16);
        due.is("may(2)", x.may(2), 2);
        due.is("may(0)", x.may(0), 0);
        Due.strips(x, "0", "");
        due.is("may(0): one 0", x.may(0), 1);
        Due.strips(x, "12", "");
        x.rule(9, false, 23);
        x.rule(3, true, 33);
        due.is("may(9)", x.may(9), 1);
        due.is("may(3): the digits in their order", x.may(3), 0);
        Due.strips(x, "12345678", "");
        x.rule(1, true, 23);
        x.rule(3, true, 45);
        x.rule(5, true, 67);
        x.rule(7, true, 89);
        due.is("may(1357)", x.may(1357), 1);
        due.is("may(1356)", x.may(1356), 0);
    }

    private static void odds(MachinesDream x, int sum, int loose, long upper, long lower) {
        due.is("odds(" + sum + ", " + loose + ", false)", x.odds(sum, loose, false), upper);
        due.is("odds(" + sum + ", " + loose + ", true)", x.odds(sum, loose, true), lower);
    }

    private static void odds() {
        due.promise("23 odds");
        MachinesDream x = Due.withStrips("111", "");
        odds(x, -1, 5, -1, -1);
        odds(x, 10000, 5, -1, -1);
        odds(x, 11, -1, -1, -1);
        odds(x, 11, 11, -1, -1);
        odds(x, LOW, 5, -1, -1);
        odds(x, 11, HIGH, -1, -1);
        odds(x, 11, 0, 0, 1);
        odds(x, 11, 10, 0, 1);
        odds(x, 11, 5, 1, 2);
        odds(x, 11, 3, 21, 50);
        odds(x, 111, 0, 1, 1);
        odds(x, 111, 10, 0, 1);
        odds(x, 111, 1, 729, 1000);
        odds(x, 111, 4, 27, 125);
        odds(x, 2, 4, 0, 1);
        Due.strips(x, "11111111", "");
        odds(x, 1111, 10, 1, 1);
        odds(x, 1111, 9, 6561, 10000);
        odds(x, 1111, 2, 1, 625);
        x.rule(1, false, 22);
        odds(x, 1111, 3, 1, 1);
        x.rule(1, false, 22 + 1);
        odds(x, 1111, 3, 81, 10000);
        x.rule(1, false, 0);
        x.put(-1);
        odds(x, 1, 7, 3, 10);
        odds(x, 11, 7, 9, 100);
        x.put(1);
        x.put(1);
        odds(x, 11, 7, 21, 50);
        odds(x, 1111, 7, 189, 2500);
        x.rule(1, true, 0);
        x.put(-1);
        odds(x, 1111, 7, 1, 1);
    }

    private static void day() {
        due.promise("24 day");
        MachinesDream x = new MachinesDream();
        for (int bad : new int[] {-2, 10000, LOW, HIGH}) {
            due.is("day(" + bad + ")", x.day(bad), -2);
        }
        due.is("about(6)", x.about(6), 0);
        for (int i = 1; i <= 8; i++) {
            due.is("day", x.day(i == 1 ? 0 : 9999), i);
        }
        due.is("day(5), the ninth", x.day(5), -2);
        due.is("about(6)", x.about(6), 8);
        due.is("day(-1)", x.day(-1), 0);
        due.is("about(6)", x.about(6), 0);
        due.is("day(5)", x.day(5), 1);
    }

    private static void fits() {
        due.promise("25 fits");
        MachinesDream x = Due.withStrips("22", "");
        due.is("fits() without days", x.fits(), 0);
        x.day(2);
        x.day(3);
        x.day(22);
        x.day(222);
        x.day(2);
        x.day(0);
        x.day(2222);
        x.day(22);
        due.is("fits()", x.fits(), 1 + 4 + 16 + 128);
        x.put(2);
        due.is("fits()", x.fits(), 4 + 8 + 128);
        x.put(-1);
        due.is("fits()", x.fits(), 0);
        x.rule(0, true, 0);
        due.is("fits()", x.fits(), 32);
    }

    private static void likeliest() {
        due.promise("26 likeliest");
        MachinesDream x = Due.withStrips("111", "");
        due.is("likeliest(5) without days", x.likeliest(5), -1);
        x.day(7);
        x.day(111);
        x.day(11);
        x.day(11);
        due.is("likeliest(-1)", x.likeliest(-1), -1);
        due.is("likeliest(11)", x.likeliest(11), -1);
        due.is("likeliest(HIGH)", x.likeliest(HIGH), -1);
        due.is("likeliest(0)", x.likeliest(0), 1);
        due.is("likeliest(3)", x.likeliest(3), 2);
        due.is("likeliest(9)", x.likeliest(9), 2);
        due.is("likeliest(10)", x.likeliest(10), -1);
        // 0.8 squared times 0.8 is 0.512, two times 0.2 times 0.8 is 0.32.
        due.is("likeliest(2)", x.likeliest(2), 1);
        x.day(-1);
        x.day(7);
        due.is("likeliest(5), none fits", x.likeliest(5), -1);
        // Like odds by unlike numbers of digits: the first.
        x.put(-1);
        x.put(3);
        x.put(3);
        x.rule(4, false, 4);
        x.rule(4, true, 4);
        x.day(-1);
        x.day(44);
        x.day(33);
        due.is("likeliest(0)", x.likeliest(0), 0);
        x.day(-1);
        x.day(33);
        x.day(44);
        due.is("likeliest(0)", x.likeliest(0), 0);
        due.is("likeliest(1)", x.likeliest(1), 1);
        // 3 becomes 33 loosely by 9 of 10, 34 by 1 of 10 and one.
        x.day(34);
        x.day(3);
        due.is("likeliest(10)", x.likeliest(10), 1);
        due.is("likeliest(9)", x.likeliest(9), 1);
    }

    private static void added(MachinesDream x, String strip, String row) {
        Due.strips(x, strip, "");
        due.is("add(-1) of " + strip, x.add(-1), row.isEmpty() ? -2 : row.length());
        for (int i = 0; i < row.length(); i++) {
            due.is("add(" + i + ") of " + strip, x.add(i), row.charAt(i) - '0');
        }
        due.is("add(" + row.length() + ") of " + strip, x.add(row.length()), -2);
        due.is("add(-2) of " + strip, x.add(-2), -2);
        due.is("add(LOW) of " + strip, x.add(LOW), -2);
        due.is("add(HIGH) of " + strip, x.add(HIGH), -2);
    }

    private static void add() {
        due.promise("27 add");
        MachinesDream x = new MachinesDream();
        added(x, "", "");
        added(x, "7", "7");
        added(x, "77", "7");
        added(x, "777", "77");
        added(x, "1234", "1234");
        added(x, "012345678901", "012345678901");
        added(x, "000000000000", "000000");
        added(x, "112", "12");
        // Of like ones the lowest first digit, and a row may begin with 0.
        x.rule(0, true, 8);
        x.rule(3, true, 8);
        added(x, "7", "0");
        added(x, "77", "7");
        added(x, "772", "72");
        added(x, "727", "020");
        // Both words of one digit: 1 is 5 or 56, so 1 and then 8 (as 68 or 8) are kept apart.
        x = new MachinesDream();
        x.rule(1, false, 6);
        x.rule(1, true, 11 + 56);
        x.rule(2, false, 11 + 67);
        added(x, "567", "12");
        added(x, "5677", "17");
        added(x, "56", "1");
        // A word of none.
        x.rule(9, false, 0);
        added(x, "", "9");
        x.rule(4, true, 0);
        added(x, "", "4");
        added(x, "4", "4");
        // Never: no word has a 7 any more.
        x = new MachinesDream();
        x.rule(7, false, 0);
        x.rule(7, true, 1);
        added(x, "7", "");
        added(x, "070", "");
        added(x, "0", "0");
    }

    private static void second() {
        due.promise("28 second");
        MachinesDream x = new MachinesDream();
        for (int bad : new int[] {-2, 10, LOW, HIGH}) {
            due.is("second(" + bad + ")", x.second(bad), -2);
        }
        for (int i = 1; i <= 12; i++) {
            due.is("second(" + i % 10 + ")", x.second(i % 10), i);
        }
        due.is("second(0), the 13th", x.second(0), -2);
        due.is("about(5)", x.about(5), 12);
        due.is("about(4)", x.about(4), 0);
        due.is("second(-1)", x.second(-1), 0);
        due.is("about(5)", x.about(5), 0);
        due.is("second(0)", x.second(0), 1);
    }

    private static void duet() {
        due.promise("29 duet");
        MachinesDream x = Due.withStrips("1212", "");
        int[][] bad = {{-1, 0}, {10000, 0}, {0, -1}, {0, 10000}, {LOW, 0}, {0, HIGH}};
        for (int[] b : bad) {
            due.is("duet(" + b[0] + ", " + b[1] + ")", x.duet(b[0], b[1]), -1);
        }
        due.is("duet(12, 12)", x.duet(12, 12), 2);
        due.is("duet(11, 22)", x.duet(11, 22), 1);
        due.is("duet(22, 11)", x.duet(22, 11), 1);
        due.is("duet(21, 12)", x.duet(21, 12), 1);
        due.is("duet(1, 212)", x.duet(1, 212), 1);
        due.is("duet(2, 112)", x.duet(2, 112), 1);
        due.is("duet(1, 122)", x.duet(1, 122), 1);
        due.is("duet(1212, 0)", x.duet(1212, 0), 0);
        due.is("duet(121, 1)", x.duet(121, 1), 0);
        Due.strips(x, "11111111", "");
        due.is("duet(1111, 1111)", x.duet(1111, 1111), 70);
        due.is("duet(1111, 111)", x.duet(1111, 111), 0);
        Due.strips(x, "00", "");
        due.is("duet(0, 0)", x.duet(0, 0), 2);
        Due.strips(x, "010", "");
        due.is("duet(0, 10)", x.duet(0, 10), 1);
        due.is("duet(10, 0)", x.duet(10, 0), 1);
        Due.strips(x, "", "");
        due.is("duet(0, 0)", x.duet(0, 0), 0);
    }

    private static void common(String one, String other, String row) {
        MachinesDream x = Due.withStrips(one, other);
        String of = " of " + one + " and " + other;
        due.is("common(-1)" + of, x.common(-1), row.length());
        for (int i = 0; i < row.length(); i++) {
            due.is("common(" + i + ")" + of, x.common(i), row.charAt(i) - '0');
        }
        due.is("common(" + row.length() + ")" + of, x.common(row.length()), -2);
        due.is("common(-2)" + of, x.common(-2), -2);
        due.is("common(LOW)" + of, x.common(LOW), -2);
        due.is("common(HIGH)" + of, x.common(HIGH), -2);
    }

    private static void common() {
        due.promise("30 common");
        common("", "", "");
        common("1", "", "");
        common("", "1", "");
        common("123", "456", "");
        common("123", "123", "123");
        common("12", "21", "1");
        common("21", "12", "1");
        common("9182", "1928", "12");
        common("1928", "9182", "12");
        common("3142", "1234", "12");
        common("4321", "1234", "1");
        common("012345678901", "012345678901", "012345678901");
        common("777777777777", "77", "77");
        common("19283746", "91827364", "1234");
        common("5050", "0505", "050");
    }

    private static void apart(String one, String other, int want) {
        due.is("apart() of " + one + " and " + other, Due.withStrips(one, other).apart(), want);
        due.is("apart() of " + other + " and " + one, Due.withStrips(other, one).apart(), want);
    }

    private static void apart() {
        due.promise("31 apart");
        apart("", "", 0);
        apart("", "123456789012", 12);
        apart("123", "123", 0);
        apart("123", "124", 1);
        apart("123", "13", 1);
        apart("123", "1243", 1);
        apart("12", "21", 2);
        apart("1234", "4321", 4);
        apart("123456", "654123", 6);
        apart("111111111111", "222222222222", 12);
        apart("0123456789", "1234567890", 2);
        apart("5121", "1215", 2);
    }

    private static void grows() {
        due.promise("32 grows");
        MachinesDream x = new MachinesDream();
        int[][] bad = {{-1, 0}, {10000, 0}, {0, -1}, {0, 13}, {LOW, 0}, {0, HIGH}};
        for (int[] b : bad) {
            due.is("grows(" + b[0] + ", " + b[1] + ")", x.grows(b[0], b[1]), -1);
        }
        due.is("grows(0, 0)", x.grows(0, 0), 1);
        due.is("grows(1000, 0)", x.grows(1000, 0), 4);
        due.is("grows(1000, 12)", x.grows(1000, 12), 4);
        // 1 becomes 10, 0 becomes 1: as many as Fibonacci's.
        x.rule(1, false, 11 + 10);
        x.rule(0, false, 2);
        int[] fibonacci = {1, 2, 3, 5, 8, 13, 21, 34, 55, 89, 144, 233, 377};
        for (int n = 0; n <= 12; n++) {
            due.is("grows(1, " + n + ")", x.grows(1, n), fibonacci[n]);
        }
        due.is("grows(11, 12)", x.grows(11, 12), 2 * 377);
        x.rule(5, false, 11 + 55);
        due.is("grows(5555, 11)", x.grows(5555, 11), 8192);
        due.is("grows(5555, 12): 9999 at most", x.grows(5555, 12), 9999);
        due.is("grows(55, 12)", x.grows(55, 12), 8192);
        x.rule(5, true, 0);
        due.is("grows(55, 12): strict rules alone", x.grows(55, 12), 8192);
        x.rule(7, false, 11 + 78);
        x.rule(8, false, 0);
        due.is("grows(7, 12)", x.grows(7, 12), 2);
        due.is("grows(8, 0)", x.grows(8, 0), 1);
        due.is("grows(8, 1)", x.grows(8, 1), 0);
        due.is("grows(8, 12): nothing stays nothing", x.grows(8, 12), 0);
        x.rule(9, false, 11 + 5);
        due.is("grows(9, 1): a first 0 is kept", x.grows(9, 1), 2);
        due.is("grows(9, 3)", x.grows(9, 3), 4 + 2);
    }

    private static void stays() {
        due.promise("33 stays");
        MachinesDream x = new MachinesDream();
        due.is("stays(false)", x.stays(false), 1023);
        due.is("stays(true)", x.stays(true), 0);
        x.rule(3, true, 4);
        due.is("stays(true)", x.stays(true), 8);
        for (int d = 0; d < 10; d++) {
            x.rule(d, false, (d + 1) % 10 + 1);
        }
        due.is("stays(false): only behind ten", x.stays(false), 0);
        for (int d = 0; d < 9; d++) {
            x.rule(d, false, (d + 1) % 9 + 1);
        }
        due.is("stays(false): behind nine", x.stays(false), 511);
        x.rule(9, false, 1);
        due.is("stays(false): 9 is not again", x.stays(false), 511);
        x.rule(4, false, 0);
        due.is("stays(false): a word of none", x.stays(false), 0);
        x.rule(4, false, 11 + 55);
        due.is("stays(false): a word of two", x.stays(false), 0);
        x.rule(3, false, 1);
        due.is("stays(false)", x.stays(false), 15);
        x.rule(9, false, 10);
        due.is("stays(false)", x.stays(false), 15 + 512);
    }
}
