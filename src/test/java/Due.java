/** What the tests share: answers held against those that are due, and texts told by their letters. */
final class Due {
    private int wrong;
    private String promise = "";

    void promise(String name) {
        promise = name;
    }

    void is(String call, long got, long want) {
        if (got != want) {
            wrong++;
            System.out.println(promise + ": " + call + " answered " + got + ", due is " + want);
        }
    }

    void yes(String call, boolean got) {
        is(call, got ? 1 : 0, 1);
    }

    void no(String call, boolean got) {
        is(call, got ? 1 : 0, 0);
    }

    void finish(String what) {
        System.out.println(wrong == 0 ? what + ": all answers are as due" : what + ": " + wrong + " are not as due");
        if (wrong != 0) {
            System.exit(1);
        }
    }

    /** The tape is this text then, and no more. */
    static void tape(MachinesDream x, String text) {
        x.end(0);
        for (int at = 0; at < text.length(); at += 20) {
            int[] five = new int[5];
            for (int k = at; k < at + 20 && k < text.length(); k++) {
                five[(k - at) / 4] |= text.charAt(k) << 8 * (3 - (k - at) % 4);
            }
            x.feed(five[0], five[1], five[2], five[3], five[4]);
        }
        x.end(text.length());
    }

    static int text(MachinesDream x, String text) {
        tape(x, text);
        return x.text();
    }

    /** Number and place of its fault: 1000 times the one and the other; 0 without. */
    static int fault(String text) {
        MachinesDream x = new MachinesDream();
        text(x, text);
        return x.fault(0) == 0 ? 0 : x.fault(0) * 1000 + x.fault(1);
    }

    static MachinesDream withStrips(String strip, String other) {
        MachinesDream x = new MachinesDream();
        strips(x, strip, other);
        return x;
    }

    static void strips(MachinesDream x, String strip, String other) {
        x.put(-1);
        x.second(-1);
        for (char c : strip.toCharArray()) {
            x.put(c - '0');
        }
        for (char c : other.toCharArray()) {
            x.second(c - '0');
        }
    }

    static String times(String text, int n) {
        StringBuilder all = new StringBuilder();
        for (int i = 0; i < n; i++) {
            all.append(text);
        }
        return all.toString();
    }
}
