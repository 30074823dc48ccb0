/** The boundary cases of III and of promises 21 to 33: each sentence has a test of its own. */
public final class EdgeStripTest {
    private static final int LOW = Due.LOW;
    private static final int HIGH = Due.HIGH;
    private static final int[] NO_NUMBERS = {-1, -2, 10000, LOW, HIGH};
    private static final Due due = new Due();

    public static void main(String[] args) {
        putRange();
        putUpToTwelve();
        putNone();
        secondRange();
        secondUpToTwelve();
        secondNone();
        mayRange();
        mayOfZero();
        mayOfTheEmptyStrip();
        mayLikeWords();
        mayOfTheWholeStrip();
        mayUpToSixteen();
        oddsRanges();
        oddsOfNone();
        oddsOfAll();
        oddsLowestTerms();
        dayRange();
        daysUpToEight();
        dayNone();
        fitsBits();
        fitsOfTheEmptyStrip();
        likeliestRange();
        likeliestNone();
        likeliestOfDaysAlone();
        likeliestOfLikeOnes();
        addOneAtLeast();
        addTwelveAtMost();
        addFewest();
        addOfLikeOnes();
        addMayBeginWithZero();
        addNever();
        addIndexRange();
        duetRanges();
        duetOfAllDigits();
        duetOfUnlikePlaces();
        duetOfZero();
        commonOfEmptyStrips();
        commonOfLikeOnes();
        commonInOrder();
        commonIndexRange();
        apartOfEmptyStrips();
        apartByOne();
        apartUpToTwelve();
        growsRanges();
        growsOfNoNights();
        grows9999AtMost();
        growsByStrictAlone();
        growsAllDigitsKept();
        growsTogether();
        growsToNone();
        staysBehindOne();
        staysBehindNine();
        staysEachWordOneDigit();
        staysStrictOrLoose();
        nothingElseChanges();
        due.finish("EdgeStripTest");
    }

    private static void putRange() {
        due.promise("21: digits 0 .. 9, -2 for others");
        MachinesDream x = new MachinesDream();
        for (int digit : new int[] {-2, 10, LOW, HIGH}) {
            due.is("put(" + digit + ")", x.put(digit), -2);
        }
        due.is("about(4)", x.about(4), 0);
        due.is("put(0)", x.put(0), 1);
        due.is("put(9)", x.put(9), 2);
        due.is("put(10)", x.put(10), -2);
        due.is("about(4)", x.about(4), 2);
        due.is("they came in their order", x.duet(0, 9), 1);
    }

    private static void putUpToTwelve() {
        due.promise("21: -2 if it has 12");
        MachinesDream x = new MachinesDream();
        for (int n = 1; n <= 12; n++) {
            due.is("put(5)", x.put(5), n);
        }
        due.is("put(5), the 13th", x.put(5), -2);
        due.is("about(4)", x.about(4), 12);
        due.is("add(-1)", x.add(-1), 6);
    }

    private static void putNone() {
        due.promise("21: digit NONE: it is empty then: 0");
        MachinesDream x = new MachinesDream();
        due.is("put(-1) of the empty one", x.put(-1), 0);
        for (int n = 1; n <= 12; n++) {
            x.put(5);
        }
        x.second(3);
        due.is("put(-1) of the full one", x.put(-1), 0);
        due.is("about(4)", x.about(4), 0);
        due.is("the other stays", x.about(5), 1);
        due.is("put(7)", x.put(7), 1);
        due.is("nothing is left", x.may(7), 1);
    }

    private static void secondRange() {
        due.promise("28: digits 0 .. 9, -2 for others");
        MachinesDream x = new MachinesDream();
        for (int digit : new int[] {-2, 10, LOW, HIGH}) {
            due.is("second(" + digit + ")", x.second(digit), -2);
        }
        due.is("about(5)", x.about(5), 0);
        due.is("second(0)", x.second(0), 1);
        due.is("second(9)", x.second(9), 2);
        due.is("about(5)", x.about(5), 2);
    }

    private static void secondUpToTwelve() {
        due.promise("28: -2 if it has 12");
        MachinesDream x = new MachinesDream();
        for (int n = 1; n <= 12; n++) {
            due.is("second(5)", x.second(5), n);
        }
        due.is("second(5), the 13th", x.second(5), -2);
        due.is("about(5)", x.about(5), 12);
        due.is("apart()", x.apart(), 12);
    }

    private static void secondNone() {
        due.promise("28: digit NONE: it is empty then: 0");
        MachinesDream x = Due.withStrips("123", "4567");
        due.is("second(-1)", x.second(-1), 0);
        due.is("about(5)", x.about(5), 0);
        due.is("THE STRIP stays", x.about(4), 3);
        due.is("second(-1) of the empty one", x.second(-1), 0);
        due.is("apart()", x.apart(), 3);
    }

    private static void mayRange() {
        due.promise("22: numbers 0 .. 9999, NONE for others");
        MachinesDream x = Due.withStrips("9999", "");
        for (int sum : NO_NUMBERS) {
            due.is("may(" + sum + ")", x.may(sum), -1);
        }
        due.is("may(9999)", x.may(9999), 1);
        due.is("may(0)", x.may(0), 0);
    }

    private static void mayOfZero() {
        due.promise("22: 0: one 0");
        MachinesDream x = Due.withStrips("0", "");
        due.is("may(0) of 0", x.may(0), 1);
        x.put(0);
        due.is("may(0) of 00", x.may(0), 1);
        x.put(0);
        due.is("may(0) of 000", x.may(0), 0);
        x.put(-1);
        due.is("may(0) of none", x.may(0), 0);
    }

    private static void mayOfTheEmptyStrip() {
        due.promise("22: THE STRIP (at first empty)");
        MachinesDream x = new MachinesDream();
        for (int sum : new int[] {0, 1, 9, 10, 9999}) {
            due.is("may(" + sum + ")", x.may(sum), 0);
        }
        x.rule(3, true, 0);
        due.is("may(3)", x.may(3), 1);
        due.is("may(3333)", x.may(3333), 1);
        due.is("may(3334)", x.may(3334), 0);
        x.rule(3, false, 0);
        due.is("may(3333)", x.may(3333), 16);
    }

    private static void mayLikeWords() {
        due.promise("22: two RULES of like WORDS are two ways");
        MachinesDream x = Due.withStrips("7", "");
        due.is("unlike ones", x.may(7), 1);
        x.rule(7, true, 8);
        due.is("like ones", x.may(7), 2);
        Due.strips(x, "77", "");
        due.is("twice", x.may(77), 4);
        due.is("once", x.may(7), 0);
    }

    private static void mayOfTheWholeStrip() {
        due.promise("22: becomes THE STRIP, all of it and no more");
        MachinesDream x = Due.withStrips("1123", "");
        due.is("may(123)", x.may(123), 1);
        due.is("may(1123)", x.may(1123), 1);
        due.is("may(12): it is longer", x.may(12), 0);
        due.is("may(23): it begins so", x.may(23), 0);
        due.is("may(1233)", x.may(1233), 0);
        Due.strips(x, "1", "");
        x.rule(2, true, 0);
        due.is("may(12): a WORD of none behind it", x.may(12), 1);
        due.is("may(21): ahead of it", x.may(21), 1);
        due.is("may(212): both", x.may(212), 1);
        Due.strips(x, "12", "");
        x.rule(5, false, 11 + 12);
        due.is("may(5): two digits in their order", x.may(5), 1);
        x.rule(5, false, 11 + 21);
        due.is("may(5): not the other way round", x.may(5), 0);
        Due.strips(x, "111111111111", "");
        due.is("twelve digits: no number has so many", x.may(1111), 0);
    }

    private static void mayUpToSixteen() {
        due.promise("22: for each digit of a number, strict or loose");
        MachinesDream x = Due.withStrips("11111", "");
        int[] choose = {1, 4, 6, 4, 1};
        due.is("one loose of four", x.may(1111), choose[1]);
        x.put(1);
        due.is("two loose of four", x.may(1111), choose[2]);
        x.put(1);
        due.is("three loose of four", x.may(1111), choose[3]);
        x.put(1);
        due.is("four loose of four", x.may(1111), choose[4]);
        x.put(1);
        due.is("nine digits", x.may(1111), 0);
    }

    private static void odds(MachinesDream x, int sum, int loose, long upper, long lower) {
        due.is("odds(" + sum + ", " + loose + ", false)", x.odds(sum, loose, false), upper);
        due.is("odds(" + sum + ", " + loose + ", true)", x.odds(sum, loose, true), lower);
    }

    private static void oddsRanges() {
        due.promise("23: numbers 0 .. 9999, loose 0 .. 10, NONE for others");
        MachinesDream x = Due.withStrips("9999", "");
        for (int sum : NO_NUMBERS) {
            odds(x, sum, 5, -1, -1);
        }
        for (int loose : new int[] {-1, 11, LOW, HIGH}) {
            odds(x, 9999, loose, -1, -1);
        }
        odds(x, 9999, 0, 1, 1);
        odds(x, 9999, 10, 0, 1);
        odds(x, 99, 10, 1, 1);
        odds(x, 0, 5, 0, 1);
    }

    private static void oddsOfNone() {
        due.promise("23: how likely: not at all");
        MachinesDream x = Due.withStrips("55", "");
        odds(x, 5, 0, 0, 1);
        odds(x, 5, 1, 1, 10);
        odds(x, 55, 10, 0, 1);
        odds(x, 55, 9, 1, 100);
        odds(x, 6, 5, 0, 1);
        odds(x, 555, 5, 0, 1);
    }

    private static void oddsOfAll() {
        due.promise("23: how likely: always");
        MachinesDream x = Due.withStrips("5", "");
        x.rule(5, true, 6);
        for (int loose = 0; loose <= 10; loose++) {
            odds(x, 5, loose, 1, 1);
        }
        Due.strips(x, "5555", "");
        odds(x, 5555, 3, 1, 1);
        x.put(5);
        odds(x, 5555, 3, 0, 1);
    }

    private static void oddsLowestTerms() {
        due.promise("23: in lowest terms");
        MachinesDream x = Due.withStrips("2", "");
        long[][] strict = {{1, 1}, {9, 10}, {4, 5}, {7, 10}, {3, 5}, {1, 2}, {2, 5}, {3, 10}, {1, 5}, {1, 10}, {0, 1}};
        for (int loose = 0; loose <= 10; loose++) {
            odds(x, 2, loose, strict[loose][0], strict[loose][1]);
        }
        Due.strips(x, "222", "");
        odds(x, 22, 5, 1, 2);
        odds(x, 22, 1, 9, 50);
        odds(x, 22, 3, 21, 50);
        odds(x, 222, 3, 343, 1000);
        odds(x, 222, 5, 1, 8);
        Due.strips(x, "2222", "");
        odds(x, 2222, 1, 6561, 10000);
        odds(x, 2222, 8, 1, 625);
        odds(x, 222, 3, 441, 1000);
        odds(x, 22, 4, 4, 25);
    }

    private static void dayRange() {
        due.promise("24: numbers 0 .. 9999, -2 for others");
        MachinesDream x = Due.withStrips("0", "");
        for (int sum : new int[] {-2, 10000, LOW, HIGH}) {
            due.is("day(" + sum + ")", x.day(sum), -2);
        }
        due.is("about(6)", x.about(6), 0);
        due.is("day(0)", x.day(0), 1);
        due.is("day(9999)", x.day(9999), 2);
        due.is("fits()", x.fits(), 1);
    }

    private static void daysUpToEight() {
        due.promise("24: -2 if there are 8");
        MachinesDream x = Due.withStrips("3", "");
        for (int n = 1; n <= 8; n++) {
            due.is("day(3)", x.day(3), n);
        }
        due.is("day(3), the ninth", x.day(3), -2);
        due.is("about(6)", x.about(6), 8);
        due.is("fits()", x.fits(), 255);
    }

    private static void dayNone() {
        due.promise("24: sum NONE: none any more");
        MachinesDream x = Due.withStrips("3", "");
        due.is("day(-1) of none", x.day(-1), 0);
        for (int n = 1; n <= 8; n++) {
            x.day(3);
        }
        due.is("day(-1) of eight", x.day(-1), 0);
        due.is("about(6)", x.about(6), 0);
        due.is("fits()", x.fits(), 0);
        due.is("likeliest(5)", x.likeliest(5), -1);
        due.is("day(4)", x.day(4), 1);
        due.is("fits(): nothing is left", x.fits(), 0);
    }

    private static void fitsBits() {
        due.promise("25: DAYS that MAY become it (bits)");
        for (int k = 0; k < 8; k++) {
            MachinesDream x = Due.withStrips("22", "");
            for (int i = 0; i < 8; i++) {
                x.day(i == k ? 22 : 222);
            }
            due.is("the one at " + k, x.fits(), 1 << k);
            x.put(2);
            due.is("the others, and the one loosely", x.fits(), 255);
            x.put(2);
            due.is("all loosely", x.fits(), 255);
            x.put(2);
            due.is("all but the one", x.fits(), 255 - (1 << k));
        }
    }

    private static void fitsOfTheEmptyStrip() {
        due.promise("25: the empty STRIP");
        MachinesDream x = new MachinesDream();
        x.day(0);
        x.day(4);
        x.day(44);
        due.is("no WORD of none", x.fits(), 0);
        x.rule(4, true, 0);
        due.is("a WORD of none", x.fits(), 6);
    }

    private static void likeliestRange() {
        due.promise("26: loose 0 .. 10, NONE for others");
        MachinesDream x = Due.withStrips("22", "");
        x.day(22);
        x.day(2);
        for (int loose : new int[] {-1, 11, LOW, HIGH}) {
            due.is("likeliest(" + loose + ")", x.likeliest(loose), -1);
        }
        due.is("likeliest(0)", x.likeliest(0), 0);
        due.is("likeliest(10)", x.likeliest(10), 1);
    }

    private static void likeliestNone() {
        due.promise("26: none (none FITS by ODDS above 0)");
        MachinesDream x = Due.withStrips("22", "");
        due.is("no DAYS", x.likeliest(5), -1);
        x.day(3);
        due.is("none FITS", x.likeliest(5), -1);
        x.day(22);
        due.is("FITS, but by 0", x.likeliest(10), -1);
        due.is("by 1 of 100", x.likeliest(9), 1);
        x.day(-1);
        x.day(2);
        due.is("FITS, but by 0", x.likeliest(0), -1);
        due.is("by 1 of 10", x.likeliest(1), 0);
        Due.strips(x, "2222", "");
        x.day(-1);
        x.day(22);
        x.day(2222);
        due.is("the least above 0: by 1 of 10000", x.likeliest(10), 0);
        x.day(-1);
        x.day(2222);
        due.is("by 1 of 10000", x.likeliest(9), 0);
        due.is("by 0", x.likeliest(10), -1);
    }

    private static void likeliestOfDaysAlone() {
        due.promise("26: of these: no number that isn't a DAY");
        MachinesDream x = Due.withStrips("0", "");
        due.is("no DAYS, not 0 either", x.likeliest(0), -1);
        due.is("fits()", x.fits(), 0);
        x.day(5);
        due.is("5 alone", x.likeliest(0), -1);
        due.is("fits()", x.fits(), 0);
        x.day(0);
        due.is("0 told", x.likeliest(0), 1);
        due.is("fits()", x.fits(), 2);
        x.day(-1);
        x.day(0);
        due.is("0 told first", x.likeliest(0), 0);
        x.day(-1);
        due.is("none any more", x.likeliest(0), -1);
    }

    private static void likeliestOfLikeOnes() {
        due.promise("26: of like ODDS the first");
        MachinesDream x = Due.withStrips("22", "");
        x.rule(5, false, 11 + 22);
        x.rule(6, true, 11 + 22);
        x.day(9);
        x.day(6);
        x.day(2);
        x.day(5);
        due.is("2 and 6 loosely", x.likeliest(6), 1);
        due.is("5 strictly", x.likeliest(4), 3);
        due.is("all alike by 5", x.likeliest(5), 1);
        x.day(-1);
        x.day(22);
        x.day(27);
        x.rule(7, false, 3);
        x.rule(7, true, 3);
        due.is("27 becomes it by 7 of 10, 22 by 49 of 100", x.likeliest(3), 1);
        due.is("both always", x.likeliest(0), 0);
        x.day(-1);
        x.day(77);
        x.day(5);
        due.is("two digits always, one digit always", x.likeliest(0), 0);
        x.day(-1);
        x.day(5);
        x.day(77);
        due.is("one digit always, two digits always", x.likeliest(0), 0);
    }

    private static void added(MachinesDream x, String strip, String row) {
        Due.strips(x, strip, "");
        due.is("add(-1) of <" + strip + ">", x.add(-1), row.isEmpty() ? -2 : row.length());
        StringBuilder got = new StringBuilder();
        for (int i = 0; i < row.length(); i++) {
            got.append(x.add(i));
        }
        due.same("the row of <" + strip + ">", got.toString(), row);
        due.is("none behind it", x.add(row.length()), -2);
    }

    private static void addOneAtLeast() {
        due.promise("27: one at least");
        MachinesDream x = new MachinesDream();
        added(x, "", "");
        x.rule(8, false, 0);
        added(x, "", "8");
        x.rule(3, true, 0);
        added(x, "", "3");
        added(x, "3", "3");
        added(x, "8", "");
    }

    private static void addTwelveAtMost() {
        due.promise("27: 12 at most");
        MachinesDream x = new MachinesDream();
        added(x, "121212121212", "121212121212");
        added(x, "121212121211", "12121212121");
        added(x, "12121212121", "12121212121");
        added(x, "555555555555", "555555");
        added(x, "55555555555", "555555");
    }

    private static void addFewest() {
        due.promise("27: the fewest digits");
        MachinesDream x = new MachinesDream();
        added(x, "1122", "12");
        added(x, "11222", "122");
        x.rule(9, false, 11 + 12);
        added(x, "1122", "12");
        added(x, "1212", "99");
        added(x, "112", "12");
        // 9 is 12, then 9 is 99: fewer than lower ones.
        added(x, "1299", "99");
    }

    private static void addOfLikeOnes() {
        due.promise("27: of like ones the lowest first digit, then the next");
        MachinesDream x = new MachinesDream();
        x.rule(4, false, 8);
        x.rule(2, true, 8);
        added(x, "7", "2");
        added(x, "71", "21");
        added(x, "17", "12");
        added(x, "77", "7");
        added(x, "177", "17");
        added(x, "7171", "2121");
        // 1 is 5 or 56: which of them it was shows behind it alone.
        MachinesDream y = new MachinesDream();
        y.rule(1, false, 6);
        y.rule(1, true, 11 + 56);
        y.rule(2, false, 11 + 67);
        added(y, "567", "12");
        added(y, "56", "1");
        added(y, "5", "1");
        added(y, "5677", "17");
    }

    private static void addMayBeginWithZero() {
        due.promise("27: no number: it may begin with 0");
        MachinesDream x = new MachinesDream();
        added(x, "0", "0");
        added(x, "01", "01");
        added(x, "001", "01");
        added(x, "000", "00");
        x.rule(0, false, 8);
        added(x, "72", "02");
    }

    private static void addNever() {
        due.promise("27: -2: never");
        MachinesDream x = new MachinesDream();
        x.rule(6, false, 1);
        added(x, "6", "");
        added(x, "66", "6");
        added(x, "666", "");
        added(x, "166", "16");
        added(x, "616", "");
        x.rule(6, true, 1);
        added(x, "66", "");
    }

    private static void addIndexRange() {
        due.promise("27: how many (i NONE), the i-th; -2: there is none such");
        MachinesDream x = Due.withStrips("123", "");
        for (int i : new int[] {-2, 3, 12, LOW, HIGH}) {
            due.is("add(" + i + ")", x.add(i), -2);
        }
        due.is("add(-1)", x.add(-1), 3);
        due.is("add(0)", x.add(0), 1);
        due.is("add(2)", x.add(2), 3);
        x.put(-1);
        due.is("add(0) of never", x.add(0), -2);
    }

    private static void duetRanges() {
        due.promise("29: numbers 0 .. 9999, NONE for others");
        MachinesDream x = Due.withStrips("99990", "");
        for (int n : NO_NUMBERS) {
            due.is("duet(" + n + ", 0)", x.duet(n, 0), -1);
            due.is("duet(0, " + n + ")", x.duet(0, n), -1);
        }
        due.is("duet(9999, 0)", x.duet(9999, 0), 1);
        due.is("duet(0, 9999)", x.duet(0, 9999), 1);
    }

    private static void duetOfAllDigits() {
        due.promise("29: THE STRIP is their digits");
        MachinesDream x = Due.withStrips("1234", "");
        due.is("duet(13, 24)", x.duet(13, 24), 1);
        due.is("duet(12, 34)", x.duet(12, 34), 1);
        due.is("duet(12, 4): one too few", x.duet(12, 4), 0);
        due.is("duet(123, 34): one too many", x.duet(123, 34), 0);
        due.is("duet(31, 24): not in their order", x.duet(31, 24), 0);
        due.is("duet(1, 234)", x.duet(1, 234), 1);
        due.is("duet(134, 2)", x.duet(134, 2), 1);
        x.put(-1);
        due.is("the empty STRIP", x.duet(1, 2), 0);
        Due.strips(x, "123456789012", "");
        due.is("twelve digits", x.duet(1234, 5678), 0);
    }

    private static void duetOfUnlikePlaces() {
        due.promise("29: of unlike places, each a way");
        MachinesDream x = Due.withStrips("11", "");
        due.is("duet(1, 1)", x.duet(1, 1), 2);
        x.put(1);
        due.is("duet(11, 1)", x.duet(11, 1), 3);
        Due.strips(x, "11111111", "");
        due.is("duet(1111, 1111)", x.duet(1111, 1111), 70);
        Due.strips(x, "1122", "");
        due.is("duet(12, 12)", x.duet(12, 12), 4);
        Due.strips(x, "1212", "");
        due.is("duet(12, 12)", x.duet(12, 12), 2);
        due.is("duet(21, 12)", x.duet(21, 12), 1);
    }

    private static void duetOfZero() {
        due.promise("29: 0: one 0");
        MachinesDream x = Due.withStrips("0", "");
        due.is("of 0", x.duet(0, 0), 0);
        x.put(0);
        due.is("of 00", x.duet(0, 0), 2);
        x.put(0);
        due.is("of 000", x.duet(0, 0), 0);
        Due.strips(x, "10", "");
        due.is("duet(1, 0)", x.duet(1, 0), 1);
        due.is("duet(0, 1)", x.duet(0, 1), 1);
        due.is("duet(10, 0)", x.duet(10, 0), 0);
    }

    private static void common(String one, String other, String row) {
        MachinesDream x = Due.withStrips(one, other);
        String of = " of <" + one + "> and <" + other + ">";
        due.is("common(-1)" + of, x.common(-1), row.length());
        StringBuilder got = new StringBuilder();
        for (int i = 0; i < row.length(); i++) {
            got.append(x.common(i));
        }
        due.same("the row" + of, got.toString(), row);
        due.is("none behind it" + of, x.common(row.length()), -2);
    }

    private static void commonOfEmptyStrips() {
        due.promise("30: the empty STRIPS");
        common("", "", "");
        common("123456789012", "", "");
        common("", "123456789012", "");
        common("1", "1", "1");
        common("1", "2", "");
    }

    private static void commonOfLikeOnes() {
        due.promise("30: of like ones the lowest first digit, then the next");
        common("12", "21", "1");
        common("21", "12", "1");
        common("2143", "1234", "13");
        common("1234", "2143", "13");
        common("90", "09", "0");
        common("1928", "9182", "12");
        common("5153", "1535", "153");
        // A low digit that is there once can't be taken twice.
        common("21", "121", "21");
        common("121", "21", "21");
        common("9891", "19891", "9891");
        common("19891", "9891", "9891");
        common("321321", "123123", "121");
        common("432143214321", "123412341234", "12121");
    }

    private static void commonInOrder() {
        due.promise("30: in both, its digits in their order, others between them or not");
        common("123", "123", "123");
        common("123", "19293", "123");
        common("102030", "123", "123");
        common("123", "321", "1");
        common("012345678901", "012345678901", "012345678901");
        common("111111111111", "11111", "11111");
        common("11111", "111111111111", "11111");
        common("123456", "246135", "135");
    }

    private static void commonIndexRange() {
        due.promise("30: how many digits (i NONE), the i-th; -2 if there is none such");
        MachinesDream x = Due.withStrips("123", "123");
        for (int i : new int[] {-2, 3, 12, LOW, HIGH}) {
            due.is("common(" + i + ")", x.common(i), -2);
        }
        due.is("common(-1)", x.common(-1), 3);
        due.is("common(0)", x.common(0), 1);
        due.is("common(2)", x.common(2), 3);
        x.second(-1);
        due.is("common(0)", x.common(0), -2);
        due.is("common(-1)", x.common(-1), 0);
    }

    private static void apart(String one, String other, int want) {
        due.is("apart() of <" + one + "> and <" + other + ">", Due.withStrips(one, other).apart(), want);
        due.is("apart() of <" + other + "> and <" + one + ">", Due.withStrips(other, one).apart(), want);
    }

    private static void apartOfEmptyStrips() {
        due.promise("31: the empty STRIPS");
        apart("", "", 0);
        apart("", "1", 1);
        apart("", "111111111111", 12);
    }

    private static void apartByOne() {
        due.promise("31: the fewest digits put in, taken out or changed");
        apart("123", "123", 0);
        apart("123", "1234", 1);
        apart("123", "0123", 1);
        apart("123", "13", 1);
        apart("123", "193", 1);
        apart("12", "21", 2);
        apart("123", "231", 2);
        apart("123", "456", 3);
        apart("1234", "2345", 2);
        apart("12345", "54321", 4);
    }

    private static void apartUpToTwelve() {
        due.promise("31: rows of up to 12 digits");
        apart("123456789012", "123456789012", 0);
        apart("123456789012", "234567890123", 2);
        apart("111111111111", "222222222222", 12);
        apart("111111111111", "22222222222", 12);
        apart("121212121212", "212121212121", 2);
        apart("123456789012", "12345678901", 1);
    }

    private static void growsRanges() {
        due.promise("32: numbers 0 .. 9999, n 0 .. 12, NONE for others");
        MachinesDream x = new MachinesDream();
        for (int sum : NO_NUMBERS) {
            due.is("grows(" + sum + ", 1)", x.grows(sum, 1), -1);
        }
        for (int n : new int[] {-1, 13, LOW, HIGH}) {
            due.is("grows(5, " + n + ")", x.grows(5, n), -1);
        }
        due.is("grows(0, 0)", x.grows(0, 0), 1);
        due.is("grows(9999, 12)", x.grows(9999, 12), 4);
    }

    private static void growsOfNoNights() {
        due.promise("32: behind 0 NIGHTS");
        MachinesDream x = new MachinesDream();
        int[][] rows = {{0, 1}, {9, 1}, {10, 2}, {99, 2}, {100, 3}, {999, 3}, {1000, 4}, {9999, 4}};
        for (int digit = 0; digit < 10; digit++) {
            x.rule(digit, false, 0);
        }
        for (int[] row : rows) {
            due.is("grows(" + row[0] + ", 0)", x.grows(row[0], 0), row[1]);
            due.is("grows(" + row[0] + ", 1)", x.grows(row[0], 1), 0);
        }
    }

    private static void grows9999AtMost() {
        due.promise("32: 9999 at most");
        MachinesDream x = new MachinesDream();
        x.rule(2, false, 11 + 22);
        due.is("4 * 2048", x.grows(2222, 11), 8192);
        due.is("2 * 4096", x.grows(22, 12), 8192);
        due.is("3 * 4096", x.grows(222, 12), 9999);
        due.is("4 * 4096", x.grows(2222, 12), 9999);
        due.is("2 * 4096 and 2", x.grows(2233, 12), 8194);
        // 5 becomes 42: 1 and 2048 behind twelve.
        x.rule(5, false, 11 + 42);
        due.is("4096 and 2 * 2049", x.grows(255, 12), 8194);
        due.is("8192 and 2049", x.grows(225, 12), 9999);
        // 7 to 6 to 5 to 42: 1 and 512; and so one by one up to what is just held.
        x.rule(7, false, 7);
        x.rule(6, false, 6);
        due.is("8192 and 513 and 1", x.grows(2274, 12), 8706);
        due.is("8192 and 1025 and 513", x.grows(2267, 12), 9730);
        due.is("8192 and 1025 and 1025", x.grows(2266, 12), 9999);
    }

    private static void growsByStrictAlone() {
        due.promise("32: by strict RULES alone");
        MachinesDream x = new MachinesDream();
        due.is("loose ones double at first", x.grows(12, 5), 2);
        x.rule(1, true, 0);
        due.is("a loose one of none", x.grows(12, 5), 2);
        x.rule(1, false, 11 + 11);
        due.is("a strict one of two", x.grows(12, 5), 33);
    }

    private static void growsAllDigitsKept() {
        due.promise("32: all digits kept");
        MachinesDream x = new MachinesDream();
        x.rule(1, false, 11);
        due.is("first 0s", x.grows(1, 1), 2);
        due.is("first 0s", x.grows(11, 2), 4);
        x.rule(0, false, 11);
        due.is("more than 12 of them", x.grows(1, 4), 16);
        due.is("more than four of them go on", x.grows(1, 5), 32);
    }

    private static void growsTogether() {
        due.promise("32: digits that become like ones are as many as they were");
        MachinesDream x = new MachinesDream();
        x.rule(3, false, 5);
        x.rule(5, false, 5);
        due.is("3, 4 and 5 to 4", x.grows(345, 1), 3);
        due.is("3, 4 and 5 to 4", x.grows(5343, 12), 4);
        x.rule(4, false, 11 + 44);
        due.is("3, 4 and 5 to 4 and 44", x.grows(345, 1), 4);
        due.is("and all of them to 44", x.grows(345, 2), 8);
        x.rule(6, false, 11 + 43);
        due.is("6 to 43, 3 to 4", x.grows(633, 2), 2 + 1 + 4);
    }

    private static void growsToNone() {
        due.promise("32: none are none");
        MachinesDream x = new MachinesDream();
        x.rule(0, false, 0);
        due.is("grows(0, 1)", x.grows(0, 1), 0);
        due.is("grows(0, 12)", x.grows(0, 12), 0);
        due.is("grows(100, 1)", x.grows(100, 1), 1);
        due.is("grows(1000, 12)", x.grows(1000, 12), 1);
    }

    private static void staysBehindOne() {
        due.promise("33: themselves again behind 1 NIGHT");
        MachinesDream x = new MachinesDream();
        due.is("strict at first", x.stays(false), 1023);
        due.is("loose at first", x.stays(true), 0);
        for (int digit = 0; digit < 10; digit++) {
            x.rule(digit, true, digit + 1);
            due.is("loose", x.stays(true), (2 << digit) - 1);
        }
        x.rule(0, false, 2);
        due.is("0 to 1, 1 to itself", x.stays(false), 1022);
        x.rule(1, false, 1);
        due.is("0 to 1 to 0", x.stays(false), 1023);
    }

    private static void staysBehindNine() {
        due.promise("33: behind 1 to 9 NIGHTS");
        for (int ring = 1; ring <= 10; ring++) {
            MachinesDream x = new MachinesDream();
            for (int digit = 0; digit < 10; digit++) {
                x.rule(digit, false, digit < ring ? (digit + 1) % ring + 1 : 0);
            }
            due.is("a ring of " + ring, x.stays(false), ring <= 9 ? (1 << ring) - 1 : 0);
        }
        MachinesDream x = new MachinesDream();
        for (int digit = 0; digit < 9; digit++) {
            x.rule(digit, false, (digit + 1) % 9 + 1);
        }
        x.rule(9, false, 1);
        due.is("9 goes into the ring of nine and is not again", x.stays(false), 511);
    }

    private static void staysEachWordOneDigit() {
        due.promise("33: if each WORD on the way has one digit");
        int[] words = {0, 11 + 12, 11 + 11, 110};
        for (int word : words) {
            MachinesDream x = new MachinesDream();
            x.rule(1, false, 3);
            x.rule(2, false, word);
            due.is("1 to 2 to " + word, x.stays(false), 1023 - 6);
        }
        MachinesDream x = new MachinesDream();
        x.rule(1, false, 11 + 1);
        due.is("01 is not 1", x.stays(false), 1023 - 2);
        x.rule(1, false, 10);
        x.rule(9, false, 2);
        due.is("1 to 9 to 1", x.stays(false), 1023);
        x.rule(0, false, 10);
        due.is("0 to 9 and not again", x.stays(false), 1022);
    }

    private static void staysStrictOrLoose() {
        due.promise("33: by RULES (strict or loose) alone");
        MachinesDream x = new MachinesDream();
        x.rule(3, false, 5);
        x.rule(4, true, 4);
        due.is("3 to 4 strictly, 4 to 3 loosely: not by one alone", x.stays(true), 0);
        due.is("4 to itself strictly", x.stays(false), 1023 - 8);
        x.rule(3, true, 5);
        due.is("both loosely", x.stays(true), 8 + 16);
    }

    private static void nothingElseChanges() {
        due.promise("III: all that follows changes nothing but THE STRIPS and what is told");
        MachinesDream x = Due.withStrips("1212", "21");
        x.machine(1, 2);
        x.machine(3, 4);
        x.crank(0, 12);
        x.crank(1, 1212);
        x.night(3);
        x.day(12);
        x.day(1212);
        x.looser(0, 1);
        x.needs(2, 5);
        Due.text(x, "loose 1;");
        String ahead = Due.seen(x);
        x.foretold(60, 0, 0);
        x.may(12);
        x.odds(12, 5, true);
        x.fits();
        x.likeliest(5);
        x.add(0);
        x.duet(12, 12);
        x.common(0);
        x.apart();
        x.grows(12, 12);
        x.stays(true);
        x.paired(0);
        x.blocks(0, 1);
        x.stock(5, 5, 5);
        x.whose();
        x.forgiven(9999);
        x.snow();
        x.worn();
        x.blank();
        x.ledger(0);
        due.same("all", Due.seen(x), ahead);
    }
}
