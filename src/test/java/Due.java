/** What the tests share: answers held against those that are due, and texts told by their letters. */
final class Due {
    static final int LOW = Integer.MIN_VALUE;
    static final int HIGH = Integer.MAX_VALUE;
    private static final int NONE = MachinesDream.NONE;

    private int wrong;
    private String promise = "";

    void promise(String name) {
        promise = name;
    }

    void is(String call, long got, long want) {
        if (got != want) {
            wrong++;
            System.out.println(promise + ": " + call + " answered " + got + ", due is " + want);
        }
    }

    void yes(String call, boolean got) {
        is(call, got ? 1 : 0, 1);
    }

    void no(String call, boolean got) {
        is(call, got ? 1 : 0, 0);
    }

    void same(String call, String got, String want) {
        if (!got.equals(want)) {
            wrong++;
            System.out.println(promise + ": " + call + " answered " + got + ", due is " + want);
        }
    }

    void finish(String what) {
        System.out.println(wrong == 0 ? what + ": all answers are as due" : what + ": " + wrong + " are not as due");
        if (wrong != 0) {
            System.exit(1);
        }
    }

    /** The tape is this text then, and no more. */
    static void tape(MachinesDream x, String text) {
        x.end(0);
        for (int at = 0; at < text.length(); at += 20) {
            int[] five = new int[5];
            for (int k = at; k < at + 20 && k < text.length(); k++) {
                five[(k - at) / 4] |= text.charAt(k) << 8 * (3 - (k - at) % 4);
            }
            x.feed(five[0], five[1], five[2], five[3], five[4]);
        }
        x.end(text.length());
    }

    static int text(MachinesDream x, String text) {
        tape(x, text);
        return x.text();
    }

    /** Number and place of its fault: 1000 times the one and the other; 0 without. */
    static int fault(String text) {
        MachinesDream x = new MachinesDream();
        text(x, text);
        return x.fault(0) == 0 ? 0 : x.fault(0) * 1000 + x.fault(1);
    }

    static MachinesDream withStrips(String strip, String other) {
        MachinesDream x = new MachinesDream();
        strips(x, strip, other);
        return x;
    }

    static void strips(MachinesDream x, String strip, String other) {
        x.put(-1);
        x.second(-1);
        for (char c : strip.toCharArray()) {
            x.put(c - '0');
        }
        for (char c : other.toCharArray()) {
            x.second(c - '0');
        }
    }

    static String times(String text, int n) {
        StringBuilder all = new StringBuilder();
        for (int i = 0; i < n; i++) {
            all.append(text);
        }
        return all.toString();
    }

    static int renewed(int x) {
        return (x * 433 + 313) % 30557;
    }

    /** An object without machines at NIGHT 0 whose next draws are these; one step has been made for it. */
    static MachinesDream drawing(int... draws) {
        for (int seed = 0; seed <= 9999; seed++) {
            int first = seed * 2 + 193;
            int x = renewed(first);
            boolean so = first % 5 != 4;
            for (int k = 0; k < draws.length && so; k++) {
                so = x % 10 == draws[k];
                x = renewed(x);
            }
            if (so) {
                MachinesDream made = new MachinesDream();
                made.decades(seed, 1);
                return made;
            }
        }
        throw new IllegalStateException("no seed gives these draws");
    }

    /** An object without machines at a NIGHT. */
    static MachinesDream late(int night) {
        MachinesDream x = new MachinesDream();
        for (int left = night; left > 0; left -= 60) {
            x.night(Math.min(left, 60));
        }
        return x;
    }

    static String roll(MachinesDream x, int machine) {
        StringBuilder digits = new StringBuilder();
        for (int i = 0; i < x.of(machine, 4); i++) {
            digits.append(x.of(machine, 10 + i));
        }
        return digits.toString();
    }

    /** What is asked of an object, in some two hundred calls: all that can be told or done shows in it. */
    static String seen(MachinesDream x) {
        StringBuilder all = new StringBuilder();
        for (int what = 0; what <= 8; what++) {
            all.append(x.about(what)).append(' ');
        }
        all.append('|').append(x.is(0)).append(' ').append(x.is(1)).append(' ').append(x.fault(0));
        for (int machine = 0; machine < x.about(0); machine++) {
            all.append('|');
            for (int what = 0; what <= 7; what++) {
                all.append(x.of(machine, what)).append(' ');
            }
            all.append(roll(x, machine));
        }
        for (int digit = 0; digit < 10; digit++) {
            all.append('|').append(x.told(digit, false)).append(' ').append(x.told(digit, true));
        }
        int rows = x.book(NONE, 0);
        for (int what = 0; what < 4; what++) {
            all.append('|').append(rows).append(' ').append(x.book(0, what)).append(' ').append(x.book(rows - 1, what));
        }
        all.append('|').append(x.fits()).append(' ').append(x.may(12)).append(' ').append(x.common(NONE));
        all.append(' ').append(x.apart()).append(' ').append(x.add(NONE)).append(' ').append(x.whose()).append('|');
        for (int i = 0; i < 4; i++) {
            all.append(x.add(i)).append(x.common(i)).append(' ');
        }
        for (int k = 0; k < 5; k++) {
            all.append(x.paired(k)).append(x.blocks(k, 0)).append(x.blocks(0, k)).append(' ');
        }
        for (int night = NONE; night < 8; night++) {
            all.append(x.stock(10, 1, night)).append(' ');
        }
        return all.toString();
    }
}
