import java.util.ArrayList;
import java.util.List;
import java.util.Random;

/** Runs of calls by chance (always the same ones), each answer held against the Model's. */
public final class FuzzTest {
    private static final int RUNS = 500;
    private static final int CALLS = 512;

    private final Random r;
    private final RandomText writer;
    private final MachinesDream x = new MachinesDream();
    private final Model m = new Model();
    private final List<String> trail = new ArrayList<>();
    private int digits = 3;
    private int calls;
    private boolean wrong;

    private FuzzTest(int seed) {
        r = new Random(seed * 7919L + 17);
        writer = new RandomText(r);
    }

    public static void main(String[] args) {
        int bad = 0;
        int runs = args.length > 0 ? Integer.parseInt(args[0]) : RUNS;
        for (int seed = 0; seed < runs && bad < 3; seed++) {
            bad += new FuzzTest(seed).run(seed) ? 0 : 1;
        }
        System.out.println(bad == 0 ? runs + " runs by chance: all as due" : bad + " runs by chance went wrong");
        if (bad > 0) {
            System.exit(1);
        }
    }

    private boolean run(int seed) {
        digits = seed % 3 == 0 ? 10 : 2 + seed % 3;
        if (seed % 10 == 7) {
            goLate();
        }
        while (calls < CALLS && !wrong) {
            act();
        }
        if (wrong) {
            System.out.println("run " + seed + ":");
            for (String line : trail.subList(Math.max(0, trail.size() - 40), trail.size())) {
                System.out.println("  " + line);
            }
        }
        return !wrong;
    }

    private void due(String call, long got, long want) {
        calls++;
        trail.add(call + " answered " + got);
        if (got != want && !wrong) {
            wrong = true;
            trail.add("  due was " + want);
        }
    }

    private void due(String call, boolean got, boolean want) {
        due(call, got ? 1 : 0, want ? 1 : 0);
    }

    /** Near the last night of all. */
    private void goLate() {
        machine();
        machine();
        crank();
        for (int i = 0; i < 166; i++) {
            due("night(60)", x.night(60), m.night(60));
        }
    }

    private int n(int low, int high) {
        int k = r.nextInt(40);
        switch (k) {
            case 0: return low - 1;
            case 1: return high + 1;
            case 2: return low;
            case 3: return high;
            case 4: return r.nextInt(8) == 0 ? Integer.MIN_VALUE : low - 2;
            case 5: return r.nextInt(8) == 0 ? Integer.MAX_VALUE : high + 2;
            default: return low + r.nextInt(high - low + 1);
        }
    }

    private int digit() {
        return r.nextInt(30) == 0 ? n(0, 9) : r.nextInt(digits);
    }

    private int number() {
        if (r.nextInt(4) == 0) {
            return n(0, 9999);
        }
        int v = 0;
        for (int k = r.nextInt(4); k >= 0; k--) {
            v = v * 10 + r.nextInt(digits);
        }
        return v;
    }

    private int who() {
        return r.nextInt(5) == 0 ? n(0, 4) : r.nextInt(Math.max(1, m.about(0)));
    }

    private boolean coin() {
        return r.nextBoolean();
    }

    private void machine() {
        int brass = n(0, 9);
        int wear = r.nextInt(5) == 0 ? n(90, 99) : n(0, 99) / 2;
        due("machine(" + brass + ", " + wear + ")", x.machine(brass, wear), m.machine(brass, wear));
    }

    private void crank() {
        int who = who();
        int number = number();
        due("crank(" + who + ", " + number + ")", x.crank(who, number), m.crank(who, number));
    }

    private void tellText() {
        String text = writer.any();
        due("end(0)", x.end(0), m.end(0));
        for (int at = 0; at < text.length(); at += 20) {
            int[] five = new int[5];
            for (int k = 0; k < 20; k++) {
                int b = at + k < text.length() ? text.charAt(at + k) : r.nextInt(256);
                five[k / 4] |= b << 8 * (3 - k % 4);
            }
            feed(five);
        }
        due("end(" + text.length() + ")", x.end(text.length()), m.end(text.length()));
        due("text() of " + text, x.text(), m.text());
        due("fault(0)", x.fault(0), m.fault(0));
        due("fault(1)", x.fault(1), m.fault(1));
        if (m.about(1) > 0 && coin()) {
            int t = m.about(1) - 1;
            due("by(" + t + ")", x.by(t), m.by(t));
            probeLaws();
        }
    }

    private void feed(int[] f) {
        due("feed(" + f[0] + ", " + f[1] + ", " + f[2] + ", " + f[3] + ", " + f[4] + ")",
                x.feed(f[0], f[1], f[2], f[3], f[4]), m.feed(f));
    }

    private void probeLaws() {
        for (int who = 0; who < m.about(0); who++) {
            for (int what = 5; what <= 7; what++) {
                due("of(" + who + ", " + what + ")", x.of(who, what), m.of(who, what));
            }
        }
    }

    private void fillStrip() {
        boolean first = coin();
        int size = r.nextInt(14);
        due(first ? "put(-1)" : "second(-1)", first ? x.put(-1) : x.second(-1), first ? m.put(-1) : m.second(-1));
        for (int i = 0; i < size; i++) {
            int d = digit();
            due((first ? "put(" : "second(") + d + ")", first ? x.put(d) : x.second(d),
                    first ? m.put(d) : m.second(d));
        }
    }

    private void probeWorld() {
        for (int what = 0; what < 2; what++) {
            due("is(" + what + ")", x.is(what), m.is(what));
        }
        int who = who();
        for (int what = 0; what < 12; what++) {
            due("of(" + who + ", " + what + ")", x.of(who, what), m.of(who, what));
        }
        int i = m.book(-1, 0) - 1;
        for (int what = 0; what < 4; what++) {
            due("book(" + i + ", " + what + ")", x.book(i, what), m.book(i, what));
        }
    }

    private void act() {
        switch (r.nextInt(16)) {
            case 0: tell(); break;
            case 1: case 2: hand(); break;
            case 3: case 4: case 5: pass(); break;
            case 6: if (r.nextInt(3) == 0) tellText(); else play(); break;
            case 7: if (r.nextInt(4) == 0) fillStrip(); else strip(); break;
            case 8: case 9: strip(); break;
            case 10: case 11: row(); break;
            case 12: case 13: rest(); break;
            case 14: ask(); break;
            default: if (r.nextInt(3) == 0) probeWorld(); else keep(); break;
        }
    }

    private void tell() {
        if (r.nextInt(4) == 0) {
            machine();
            return;
        }
        int digit = digit();
        int word = r.nextInt(3) == 0 ? n(0, 110) : word();
        boolean loose = coin();
        due("rule(" + digit + ", " + loose + ", " + word + ")", x.rule(digit, loose, word), m.rule(digit, loose, word));
    }

    private int word() {
        int k = r.nextInt(6);
        int one = r.nextInt(digits);
        return k == 0 ? 0 : k < 4 ? one + 1 : 11 + one * 10 + r.nextInt(digits);
    }

    private void hand() {
        int who = who();
        int n = n(0, 9);
        switch (r.nextInt(4)) {
            case 0: due("oil(" + who + ", " + n + ")", x.oil(who, n), m.oil(who, n)); break;
            case 1: due("lift(" + who + ")", x.lift(who), m.lift(who)); break;
            default: crank(); break;
        }
    }

    private void pass() {
        int k = r.nextInt(12);
        if (k < 5) {
            int n = r.nextInt(4) == 0 ? n(1, 60) : 1 + r.nextInt(3);
            due("night(" + n + ")", x.night(n), m.night(n));
        } else if (k < 7) {
            int seed = n(0, 9999);
            int n = n(1, 40);
            due("decades(" + seed + ", " + n + ")", x.decades(seed, n), m.decades(seed, n));
        } else if (k < 10) {
            due("undo()", x.undo(), m.undo());
        } else {
            int n = n(1, 60);
            int who = who();
            int what = n(0, 2);
            due("foretold(" + n + ", " + who + ", " + what + ")", x.foretold(n, who, what), m.foretold(n, who, what));
        }
    }

    private void play() {
        int t = n(-1, 3);
        switch (r.nextInt(3)) {
            case 0: due("by(" + t + ")", x.by(t), m.by(t)); break;
            case 1: due("played(" + t + ")", x.played(t), m.played(t)); break;
            default: probeLaws(); break;
        }
    }

    private void strip() {
        int digit = digit();
        int sum = number();
        int loose = n(0, 10);
        switch (r.nextInt(12)) {
            case 0: case 1: due("put(" + digit + ")", x.put(digit), m.put(digit)); break;
            case 2: due("second(" + digit + ")", x.second(digit), m.second(digit)); break;
            case 3: if (r.nextInt(3) == 0) due("put(-1)", x.put(-1), m.put(-1)); break;
            case 4: case 5: due("may(" + sum + ")", x.may(sum), m.may(sum)); break;
            case 6: case 7:
                due("odds(" + sum + ", " + loose + ", false)", x.odds(sum, loose, false), m.odds(sum, loose, false));
                due("odds(" + sum + ", " + loose + ", true)", x.odds(sum, loose, true), m.odds(sum, loose, true));
                break;
            case 8: {
                int day = r.nextInt(12) == 0 ? -1 : sum;
                due("day(" + day + ")", x.day(day), m.day(day));
                break;
            }
            case 9: due("fits()", x.fits(), m.fits()); break;
            case 10: due("likeliest(" + loose + ")", x.likeliest(loose), m.likeliest(loose)); break;
            default: becomeStrip(); break;
        }
    }

    /** A strip that a number becomes, so that ways and odds are seldom none. */
    private void becomeStrip() {
        StringBuilder row = new StringBuilder();
        int size = 1 + r.nextInt(4);
        int sum = 0;
        for (int k = 0; k < size; k++) {
            int d = r.nextInt(digits);
            sum = sum * 10 + d;
            row.append(Model.word(m.told(d, coin())));
        }
        due("put(-1)", x.put(-1), m.put(-1));
        for (char c : row.toString().toCharArray()) {
            due("put(" + c + ")", x.put(c - '0'), m.put(c - '0'));
        }
        int loose = n(0, 10);
        due("may(" + sum + ")", x.may(sum), m.may(sum));
        due("odds(" + sum + ", " + loose + ", false)", x.odds(sum, loose, false), m.odds(sum, loose, false));
        due("odds(" + sum + ", " + loose + ", true)", x.odds(sum, loose, true), m.odds(sum, loose, true));
        due("day(" + sum + ")", x.day(sum), m.day(sum));
        due("likeliest(" + loose + ")", x.likeliest(loose), m.likeliest(loose));
    }

    private void row() {
        int i = n(-1, 12);
        switch (r.nextInt(6)) {
            case 0:
                due("add(-1)", x.add(-1), m.add(-1));
                due("add(" + i + ")", x.add(i), m.add(i));
                for (int k = 0; k < m.add(-1); k++) {
                    due("add(" + k + ")", x.add(k), m.add(k));
                }
                break;
            case 1:
                due("common(-1)", x.common(-1), m.common(-1));
                due("common(" + i + ")", x.common(i), m.common(i));
                for (int k = 0; k < m.common(-1); k++) {
                    due("common(" + k + ")", x.common(k), m.common(k));
                }
                break;
            case 2: due("apart()", x.apart(), m.apart()); break;
            case 3: weave(); break;
            case 4: {
                int sum = number();
                int n = n(0, 12);
                due("grows(" + sum + ", " + n + ")", x.grows(sum, n), m.grows(sum, n));
                break;
            }
            default: {
                boolean loose = coin();
                due("stays(" + loose + ")", x.stays(loose), m.stays(loose));
                break;
            }
        }
    }

    private void weave() {
        int a = number();
        int b = number();
        if (a >= 0 && a <= 9999 && b >= 0 && b <= 9999 && r.nextInt(3) == 0) {
            String left = "" + a;
            String right = "" + b;
            due("put(-1)", x.put(-1), m.put(-1));
            while (!left.isEmpty() || !right.isEmpty()) {
                boolean fromLeft = right.isEmpty() || !left.isEmpty() && coin();
                int d = (fromLeft ? left : right).charAt(0) - '0';
                left = fromLeft ? left.substring(1) : left;
                right = fromLeft ? right : right.substring(1);
                due("put(" + d + ")", x.put(d), m.put(d));
            }
        }
        due("duet(" + a + ", " + b + ")", x.duet(a, b), m.duet(a, b));
    }

    private void rest() {
        switch (r.nextInt(8)) {
            case 0: case 1: {
                boolean clerk = coin();
                int who = n(0, 4);
                int whom = n(0, 4);
                int rank = n(0, 9);
                due("likes(" + clerk + ", " + who + ", " + whom + ", " + rank + ")",
                        x.likes(clerk, who, whom, rank), m.likes(clerk, who, whom, rank));
                break;
            }
            case 2: {
                int clerk = n(0, 4);
                due("paired(" + clerk + ")", x.paired(clerk), m.paired(clerk));
                break;
            }
            case 3: {
                int clerk = n(0, 4);
                int machine = n(0, 4);
                due("blocks(" + clerk + ", " + machine + ")", x.blocks(clerk, machine), m.blocks(clerk, machine));
                break;
            }
            case 4: case 5: {
                int night = n(0, 7);
                int oil = r.nextInt(3) == 0 ? n(0, 99) : r.nextInt(5);
                due("needs(" + night + ", " + oil + ")", x.needs(night, oil), m.needs(night, oil));
                break;
            }
            default: {
                int once = r.nextInt(3) == 0 ? n(0, 999) : r.nextInt(40);
                int kept = r.nextInt(3) == 0 ? n(0, 99) : r.nextInt(4);
                int odd = n(-1, 7);
                due("stock(" + once + ", " + kept + ", " + odd + ")",
                        x.stock(once, kept, odd), m.stock(once, kept, odd));
                for (int i = -1; i < 8; i++) {
                    due("stock(" + once + ", " + kept + ", " + i + ")",
                            x.stock(once, kept, i), m.stock(once, kept, i));
                }
                break;
            }
        }
    }

    private void ask() {
        int who = r.nextInt(9) == 0 ? -1 : who();
        switch (r.nextInt(12)) {
            case 0: {
                boolean so = m.of(who, 5) >= 0 && r.nextInt(3) > 0;
                int loose = so ? m.of(who, 5) : n(0, 10);
                due("looser(" + who + ", " + loose + ")", x.looser(who, loose), m.looser(who, loose));
                break;
            }
            case 1: case 2: due("whose()", x.whose(), m.whose()); break;
            case 3: {
                int limit = n(0, 9999);
                due("forgiven(" + limit + ")", x.forgiven(limit), m.forgiven(limit));
                break;
            }
            case 4: due("snow()", x.snow(), m.snow()); break;
            case 5: due("worn()", x.worn(), m.worn()); break;
            case 6: due("blank()", x.blank(), m.blank()); break;
            case 7: due("ledger(" + who + ")", x.ledger(who), m.ledger(who)); break;
            case 8: {
                int digit = n(0, 9);
                boolean loose = coin();
                due("told(" + digit + ", " + loose + ")", x.told(digit, loose), m.told(digit, loose));
                break;
            }
            case 9: {
                int i = n(-1, 29);
                int what = n(0, 3);
                due("book(" + i + ", " + what + ")", x.book(i, what), m.book(i, what));
                break;
            }
            case 10: {
                int what = n(0, 8);
                due("about(" + what + ")", x.about(what), m.about(what));
                due("is(" + what + ")", x.is(what), m.is(what));
                due("fault(" + what + ")", x.fault(what), m.fault(what));
                break;
            }
            default: {
                int what = n(0, 24);
                due("of(" + who + ", " + what + ")", x.of(who, what), m.of(who, what));
                int n = n(0, m.about(8));
                due("end(" + n + ")", x.end(n), m.end(n));
                if (coin()) {
                    feed(new int[] {r.nextInt(), r.nextInt(), r.nextInt(), r.nextInt(), r.nextInt()});
                }
                break;
            }
        }
    }

    private void keep() {
        switch (r.nextInt(5)) {
            case 0: due("image()", x.image(), m.image()); break;
            case 1: due("back()", x.back(), m.back()); break;
            default:
                for (int what = 0; what < 9; what++) {
                    due("about(" + what + ")", x.about(what), m.about(what));
                }
                break;
        }
    }
}
