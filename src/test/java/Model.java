import java.util.ArrayList;
import java.util.List;
import java.util.function.ToIntFunction;

/**
 * A second reading of the document, written for plainness and not for the room: strings, lists, whole copies,
 * and counting through all there is. FuzzTest holds the program against it.
 */
final class Model {
    static final class Machine {
        int brass;
        int told;
        int wear;
        int oil;
        int sum;
        String roll = "";

        Machine copy() {
            Machine m = new Machine();
            m.brass = brass;
            m.told = told;
            m.wear = wear;
            m.oil = oil;
            m.sum = sum;
            m.roll = roll;
            return m;
        }
    }

    static final class Bank {
        List<Machine> machines = new ArrayList<>();
        List<int[]> book = new ArrayList<>();
        int night = 0;
        int x = 193;

        Bank copy() {
            Bank b = new Bank();
            for (Machine m : machines) {
                b.machines.add(m.copy());
            }
            b.book.addAll(book);
            b.night = night;
            b.x = x;
            return b;
        }

        int draw() {
            int d = x % 10;
            x = (x * 433 + 313) % 30557;
            return d;
        }
    }

    /** What a law is asked about. */
    static final class Asked {
        Bank bank;
        int who;

        Asked(Bank bank, int who) {
            this.bank = bank;
            this.who = who;
        }

        Machine it() {
            return bank.machines.get(who);
        }
    }

    interface Sum extends ToIntFunction<Asked> {
    }

    static final class Clause {
        String word;
        int a;
        int b;
        Sum law;
    }

    static final class Fault extends RuntimeException {
        private static final long serialVersionUID = 1L;
        final int number;
        final int place;

        Fault(int number, int place) {
            this.number = number;
            this.place = place;
        }
    }

    static final class All {
        Bank bank = new Bank();
        List<Bank> past = new ArrayList<>();
        List<List<Clause>> texts = new ArrayList<>();
        int by = -1;
        String[][] rules = new String[2][10];
        String strip = "";
        String other = "";
        List<Integer> days = new ArrayList<>();
        List<int[]> read = new ArrayList<>();
        int[][] clerkLikes = new int[5][5];
        int[][] machineLikes = new int[5][5];
        int[] needs = new int[8];

        All() {
            for (int d = 0; d < 10; d++) {
                rules[0][d] = "" + d;
                rules[1][d] = "" + d + d;
            }
        }

        All copy() {
            All a = new All();
            a.bank = bank.copy();
            for (Bank b : past) {
                a.past.add(b.copy());
            }
            a.texts.addAll(texts);
            a.by = by;
            a.rules = new String[][] {rules[0].clone(), rules[1].clone()};
            a.strip = strip;
            a.other = other;
            a.days.addAll(days);
            a.read.addAll(read);
            for (int i = 0; i < 5; i++) {
                a.clerkLikes[i] = clerkLikes[i].clone();
                a.machineLikes[i] = machineLikes[i].clone();
            }
            a.needs = needs.clone();
            return a;
        }
    }

    All all = new All();
    All image = new All();
    String tape = "";
    int fault = -1;
    int faultPlace = -1;

    static String word(int number) {
        if (number == 0) {
            return "";
        }
        if (number <= 10) {
            return "" + (number - 1);
        }
        return "" + (number - 11) / 10 + (number - 11) % 10;
    }

    static int numberOf(String word) {
        return word.isEmpty() ? 0 : word.length() == 1 ? Integer.parseInt(word) + 1 : Integer.parseInt(word) + 11;
    }

    static boolean in(int n, int low, int high) {
        return low <= n && n <= high;
    }

    boolean has(int machine) {
        return in(machine, 0, all.bank.machines.size() - 1);
    }

    Machine at(int machine) {
        return all.bank.machines.get(machine);
    }

    void step() {
        all.past.add(all.bank.copy());
        if (all.past.size() > 30) {
            all.past.remove(0);
        }
    }

    // ---- laws ----

    static Clause lawOf(List<Clause> text, String word) {
        if (text != null) {
            for (Clause c : text) {
                if (c.word.equals(word)) {
                    return c;
                }
            }
        }
        return null;
    }

    static int loose(List<Clause> text, Bank bank, int who) {
        Clause law = lawOf(text, "loose");
        Machine m = bank.machines.get(who);
        int v = law == null ? m.oil - m.brass / 3 : law.law.applyAsInt(new Asked(bank, who));
        return Math.min(10, Math.max(0, v));
    }

    static int believes(List<Clause> text, Bank bank, int who) {
        Clause law = lawOf(text, "believes");
        int v = law == null ? 2 : law.law.applyAsInt(new Asked(bank, who));
        return Math.min(10, Math.max(0, v));
    }

    static int wears(List<Clause> text, Bank bank, int who) {
        Clause law = lawOf(text, "wears");
        int v = law == null ? (bank.machines.get(who).oil == 0 ? 1 : 0) : law.law.applyAsInt(new Asked(bank, who));
        return Math.min(9, Math.max(0, v));
    }

    List<Clause> theText() {
        return all.by < 0 ? null : all.texts.get(all.by);
    }

    int pass(Bank bank) {
        int believed = 0;
        for (int who = 0; who < bank.machines.size(); who++) {
            Machine m = bank.machines.get(who);
            int loose = loose(theText(), bank, who);
            StringBuilder roll = new StringBuilder();
            for (char c : ("" + m.sum).toCharArray()) {
                roll.append(all.rules[bank.draw() < loose ? 1 : 0][c - '0']);
            }
            m.roll = roll.length() > 12 ? roll.substring(0, 12) : roll.toString();
            if (bank.draw() < believes(theText(), bank, who)) {
                believed++;
                int then = m.roll.isEmpty() ? 0 : Integer.parseInt(m.roll.substring(Math.max(0, m.roll.length() - 4)));
                bank.book.add(new int[] {bank.night, who, m.sum, then});
                if (bank.book.size() > 30) {
                    bank.book.remove(0);
                }
                m.sum = then;
            }
            m.wear = Math.min(99, m.wear + wears(theText(), bank, who));
            m.oil = Math.max(0, m.oil - 1);
        }
        bank.night++;
        return believed;
    }

    // ---- the calls ----

    int machine(int brass, int wear) {
        if (!in(brass, 0, 9) || !in(wear, 0, 99) || all.bank.machines.size() == 5) {
            return -1;
        }
        Machine m = new Machine();
        m.brass = brass;
        m.told = wear;
        m.wear = wear;
        all.bank.machines.add(m);
        return all.bank.machines.size() - 1;
    }

    boolean rule(int digit, boolean loose, int word) {
        if (!in(digit, 0, 9) || !in(word, 0, 110)) {
            return false;
        }
        all.rules[loose ? 1 : 0][digit] = word(word);
        return true;
    }

    int feed(int... five) {
        if (tape.length() + 20 > 300) {
            return -1;
        }
        StringBuilder more = new StringBuilder(tape);
        for (int i : five) {
            for (int k = 3; k >= 0; k--) {
                more.append((char) (i >> 8 * k & 0xff));
            }
        }
        tape = more.toString();
        return tape.length();
    }

    int end(int n) {
        if (!in(n, 0, tape.length())) {
            return -1;
        }
        tape = tape.substring(0, n);
        return n;
    }

    int text() {
        if (all.texts.size() == 4) {
            return -1;
        }
        String source = tape;
        tape = "";
        try {
            all.texts.add(new ModelReader(source).read());
            fault = 0;
            faultPlace = -1;
            return all.texts.size() - 1;
        } catch (Fault f) {
            fault = f.number;
            faultPlace = f.place;
            return -1;
        }
    }

    int fault(int what) {
        return what == 0 ? fault : what == 1 ? faultPlace : -1;
    }

    boolean by(int text) {
        if (!in(text, -1, all.texts.size() - 1)) {
            return false;
        }
        all.by = text;
        return true;
    }

    int crank(int machine, int number) {
        if (!has(machine) || !in(number, 0, 9999) || at(machine).wear >= 99) {
            return -1;
        }
        step();
        at(machine).sum = (at(machine).sum + number) % 10000;
        at(machine).wear++;
        return at(machine).sum;
    }

    boolean oil(int machine, int n) {
        if (!has(machine) || !in(n, 0, 9)) {
            return false;
        }
        step();
        at(machine).oil = n;
        return true;
    }

    boolean lift(int machine) {
        if (!has(machine) || at(machine).roll.isEmpty()) {
            return false;
        }
        step();
        at(machine).roll = "";
        return true;
    }

    int night(int n) {
        if (!in(n, 1, 60) || all.bank.night + n > 9999) {
            return -1;
        }
        int believed = 0;
        for (int i = 0; i < n; i++) {
            step();
            believed += pass(all.bank);
        }
        return believed;
    }

    int played(int text) {
        if (!in(text, 0, all.texts.size() - 1)) {
            return -2;
        }
        List<Clause> clauses = all.texts.get(text);
        for (int i = 0; i < clauses.size(); i++) {
            Clause c = clauses.get(i);
            boolean can = true;
            switch (c.word) {
                case "machine": can = machine(c.a, c.b) >= 0; break;
                case "strict": can = rule(c.a, false, c.b); break;
                case "slack": can = rule(c.a, true, c.b); break;
                case "crank": can = crank(c.b, c.a) >= 0; break;
                case "oil": can = oil(c.a, c.b); break;
                case "lift": can = lift(c.a); break;
                case "night":
                    for (int k = 0; k < c.a && can; k++) {
                        can = night(1) >= 0;
                    }
                    break;
                default: break;
            }
            if (!can) {
                return i;
            }
        }
        return -1;
    }

    int decades(int seed, int n) {
        if (!in(seed, 0, 9999) || !in(n, 1, 40)) {
            return -1;
        }
        step();
        Bank bank = all.bank;
        bank.x = seed * 2 + 193;
        for (int i = 0; i < n; i++) {
            int x = bank.x;
            bank.draw();
            if (x % 5 == 4 && bank.night < 9999) {
                pass(bank);
            }
            if (x % 5 == 4 || bank.machines.isEmpty()) {
                continue;
            }
            Machine m = bank.machines.get(x % bank.machines.size());
            if (x % 5 < 2 && m.wear < 99) {
                m.sum = (m.sum + x % 997) % 10000;
                m.wear++;
            }
            if (x % 5 == 2) {
                m.oil = x % 10;
            }
            if (x % 5 == 3) {
                m.roll = "";
            }
        }
        return bank.night;
    }

    int undo() {
        if (all.past.isEmpty()) {
            return -1;
        }
        Bank ahead = all.past.remove(all.past.size() - 1);
        for (int i = ahead.machines.size(); i < all.bank.machines.size(); i++) {
            Machine m = new Machine();
            m.brass = at(i).brass;
            m.told = at(i).told;
            m.wear = m.told;
            ahead.machines.add(m);
        }
        all.bank = ahead;
        return all.past.size();
    }

    int of(int machine, int what) {
        if (!has(machine)) {
            return -1;
        }
        Machine m = at(machine);
        switch (what) {
            case 0: return m.brass;
            case 1: return m.wear;
            case 2: return m.oil;
            case 3: return m.sum;
            case 4: return m.roll.length();
            case 5: return loose(theText(), all.bank, machine);
            case 6: return believes(theText(), all.bank, machine);
            case 7: return wears(theText(), all.bank, machine);
            default: return in(what, 10, 9 + m.roll.length()) ? m.roll.charAt(what - 10) - '0' : -1;
        }
    }

    int told(int digit, boolean loose) {
        return in(digit, 0, 9) ? numberOf(all.rules[loose ? 1 : 0][digit]) : -1;
    }

    int is(int what) {
        return what == 0 ? all.bank.night : what == 1 ? all.bank.x : -2;
    }

    int book(int i, int what) {
        if (i == -1) {
            return all.bank.book.size();
        }
        return in(i, 0, all.bank.book.size() - 1) && in(what, 0, 3) ? all.bank.book.get(i)[what] : -2;
    }

    int foretold(int n, int machine, int what) {
        if (!in(n, 1, 60) || !has(machine) || !in(what, 0, 2)) {
            return -1;
        }
        Bank bank = all.bank.copy();
        for (int i = 0; i < n && bank.night < 9999; i++) {
            pass(bank);
        }
        Machine m = bank.machines.get(machine);
        return what == 0 ? m.sum : what == 1 ? m.wear : m.roll.length();
    }

    int put(int digit) {
        if (digit == -1) {
            all.strip = "";
        } else if (!in(digit, 0, 9) || all.strip.length() == 12) {
            return -2;
        } else {
            all.strip += digit;
        }
        return all.strip.length();
    }

    int second(int digit) {
        if (digit == -1) {
            all.other = "";
        } else if (!in(digit, 0, 9) || all.other.length() == 12) {
            return -2;
        } else {
            all.other += digit;
        }
        return all.other.length();
    }

    /** By how many loose digits the ways are: row[k] ways with k loose ones. */
    int[] ways(int sum) {
        String digits = "" + sum;
        int[] row = new int[5];
        for (int mask = 0; mask < 1 << digits.length(); mask++) {
            StringBuilder made = new StringBuilder();
            for (int k = 0; k < digits.length(); k++) {
                made.append(all.rules[mask >> k & 1][digits.charAt(k) - '0']);
            }
            if (made.toString().equals(all.strip)) {
                row[Integer.bitCount(mask)]++;
            }
        }
        return row;
    }

    long may(int sum) {
        if (!in(sum, 0, 9999)) {
            return -1;
        }
        long n = 0;
        for (int w : ways(sum)) {
            n += w;
        }
        return n;
    }

    /** Upper and lower, in lowest terms. */
    long[] oddsOf(int sum, int loose) {
        int size = ("" + sum).length();
        int[] row = ways(sum);
        long up = 0;
        for (int k = 0; k <= size; k++) {
            long each = row[k];
            for (int j = 0; j < size; j++) {
                each *= j < k ? loose : 10 - loose;
            }
            up += each;
        }
        long low = Math.round(Math.pow(10, size));
        for (long d = low; d > 1; d--) {
            if (up % d == 0 && low % d == 0) {
                up /= d;
                low /= d;
            }
        }
        return new long[] {up, low};
    }

    long odds(int sum, int loose, boolean low) {
        return !in(sum, 0, 9999) || !in(loose, 0, 10) ? -1 : oddsOf(sum, loose)[low ? 1 : 0];
    }

    int day(int sum) {
        if (sum == -1) {
            all.days.clear();
        } else if (!in(sum, 0, 9999) || all.days.size() == 8) {
            return -2;
        } else {
            all.days.add(sum);
        }
        return all.days.size();
    }

    int fits() {
        int bits = 0;
        for (int i = 0; i < all.days.size(); i++) {
            bits += may(all.days.get(i)) > 0 ? 1 << i : 0;
        }
        return bits;
    }

    int likeliest(int loose) {
        if (!in(loose, 0, 10)) {
            return -1;
        }
        int best = -1;
        long[] odds = {0, 1};
        for (int i = 0; i < all.days.size(); i++) {
            long[] its = oddsOf(all.days.get(i), loose);
            if (its[0] * odds[1] > odds[0] * its[1]) {
                odds = its;
                best = i;
            }
        }
        return best;
    }

    /** All rows of so many digits, in their order, cut where what they can have made is no beginning. */
    String rowOf(int digits, String soFar, List<String> made) {
        if (soFar.length() == digits) {
            return made.contains(all.strip) ? soFar : null;
        }
        for (int d = 0; d < 10; d++) {
            List<String> then = new ArrayList<>();
            for (String m : made) {
                for (int k = 0; k < 2; k++) {
                    String next = m + all.rules[k][d];
                    boolean may = next.length() + 2 * (digits - soFar.length() - 1) >= all.strip.length();
                    if (may && all.strip.startsWith(next) && !then.contains(next)) {
                        then.add(next);
                    }
                }
            }
            String row = then.isEmpty() ? null : rowOf(digits, soFar + d, then);
            if (row != null) {
                return row;
            }
        }
        return null;
    }

    int add(int i) {
        String row = null;
        for (int k = 1; k <= Math.max(1, all.strip.length()) && row == null; k++) {
            row = rowOf(k, "", List.of(""));
        }
        if (row == null) {
            return -2;
        }
        return i == -1 ? row.length() : in(i, 0, row.length() - 1) ? row.charAt(i) - '0' : -2;
    }

    int duet(int a, int b) {
        return !in(a, 0, 9999) || !in(b, 0, 9999) ? -1 : woven("" + a, "" + b, all.strip);
    }

    static int woven(String a, String b, String strip) {
        if (strip.isEmpty()) {
            return a.isEmpty() && b.isEmpty() ? 1 : 0;
        }
        int ways = 0;
        if (!a.isEmpty() && a.charAt(0) == strip.charAt(0)) {
            ways += woven(a.substring(1), b, strip.substring(1));
        }
        if (!b.isEmpty() && b.charAt(0) == strip.charAt(0)) {
            ways += woven(a, b.substring(1), strip.substring(1));
        }
        return ways;
    }

    static boolean isIn(String row, String strip) {
        int at = 0;
        for (char c : strip.toCharArray()) {
            if (at < row.length() && row.charAt(at) == c) {
                at++;
            }
        }
        return at == row.length();
    }

    int common(int i) {
        String best = "";
        for (int mask = 0; mask < 1 << all.strip.length(); mask++) {
            int size = Integer.bitCount(mask);
            if (size < best.length()) {
                continue;
            }
            StringBuilder row = new StringBuilder();
            for (int k = 0; k < all.strip.length(); k++) {
                if ((mask >> k & 1) == 1) {
                    row.append(all.strip.charAt(k));
                }
            }
            boolean better = size > best.length() || row.toString().compareTo(best) < 0;
            if (better && isIn(row.toString(), all.other)) {
                best = row.toString();
            }
        }
        return i == -1 ? best.length() : in(i, 0, best.length() - 1) ? best.charAt(i) - '0' : -2;
    }

    int apart() {
        return apart(all.strip, all.other, new int[13][13]);
    }

    /** done: one more than the answer, where it is known. */
    static int apart(String a, String b, int[][] done) {
        if (a.isEmpty() || b.isEmpty()) {
            return a.length() + b.length();
        }
        if (done[a.length()][b.length()] == 0) {
            int best = apart(a.substring(1), b.substring(1), done) + (a.charAt(0) == b.charAt(0) ? 0 : 1);
            best = Math.min(best, 1 + apart(a.substring(1), b, done));
            best = Math.min(best, 1 + apart(a, b.substring(1), done));
            done[a.length()][b.length()] = best + 1;
        }
        return done[a.length()][b.length()] - 1;
    }

    int grows(int sum, int n) {
        if (!in(sum, 0, 9999) || !in(n, 0, 12)) {
            return -1;
        }
        String row = "" + sum;
        for (int i = 0; i < n; i++) {
            StringBuilder next = new StringBuilder();
            for (char c : row.toCharArray()) {
                next.append(all.rules[0][c - '0']);
            }
            row = next.toString();
        }
        return Math.min(9999, row.length());
    }

    int stays(boolean loose) {
        int bits = 0;
        for (int d = 0; d < 10; d++) {
            String row = "" + d;
            boolean again = false;
            for (int n = 1; n <= 9 && row.length() == 1; n++) {
                row = all.rules[loose ? 1 : 0][row.charAt(0) - '0'];
                again |= row.equals("" + d);
                if (again) {
                    break;
                }
            }
            bits += again ? 1 << d : 0;
        }
        return bits;
    }

    boolean likes(boolean clerk, int who, int whom, int rank) {
        if (!in(who, 0, 4) || !in(whom, 0, 4) || !in(rank, 0, 9)) {
            return false;
        }
        (clerk ? all.clerkLikes : all.machineLikes)[who][whom] = rank;
        return true;
    }

    /** All in all, how much: like ranks told apart by the number. */
    static int taste(int[][] likes, int who, int whom) {
        return likes[who][whom] * 10 + whom;
    }

    boolean wouldRather(int clerk, int machine, int hisMachine, int itsClerk) {
        return taste(all.clerkLikes, clerk, machine) < taste(all.clerkLikes, clerk, hisMachine)
                && taste(all.machineLikes, machine, clerk) < taste(all.machineLikes, machine, itsClerk);
    }

    /** Of all pairings in which no two would rather, askers get the best they get in any. */
    int paired(int clerk) {
        if (!in(clerk, 0, 4)) {
            return -1;
        }
        int best = -1;
        for (int code = 0; code < 3125; code++) {
            int[] has = {code % 5, code / 5 % 5, code / 25 % 5, code / 125 % 5, code / 625};
            int[] clerkOf = {-1, -1, -1, -1, -1};
            for (int c = 0; c < 5; c++) {
                clerkOf[has[c]] = c;
            }
            boolean holds = true;
            for (int m = 0; m < 5; m++) {
                holds &= clerkOf[m] >= 0;
            }
            for (int c = 0; c < 5 && holds; c++) {
                for (int m = 0; m < 5; m++) {
                    holds &= !wouldRather(c, m, has[c], clerkOf[m]);
                }
            }
            if (holds && (best < 0 || taste(all.clerkLikes, clerk, has[clerk]) < taste(all.clerkLikes, clerk, best))) {
                best = has[clerk];
            }
        }
        return best;
    }

    int blocks(int clerk, int machine) {
        return !in(clerk, 0, 4) || !in(machine, 0, 4) ? -1 : wouldRather(clerk, machine, clerk, machine) ? 1 : 0;
    }

    boolean needs(int night, int oil) {
        if (!in(night, 0, 7) || !in(oil, 0, 99)) {
            return false;
        }
        all.needs[night] = oil;
        return true;
    }

    int stock(int once, int kept, int i) {
        if (!in(once, 0, 999) || !in(kept, 0, 99) || !in(i, -1, 7)) {
            return -1;
        }
        int least = Integer.MAX_VALUE;
        int[] best = null;
        for (int starts = 1; starts < 256; starts += 2) {
            int[] bought = new int[8];
            int cost = 0;
            int from = 0;
            for (int night = 0; night < 8; night++) {
                from = (starts >> night & 1) == 1 ? night : from;
                bought[from] += all.needs[night];
                cost += (night - from) * kept * all.needs[night];
            }
            for (int b : bought) {
                cost += b > 0 ? once : 0;
            }
            boolean more = best != null && java.util.Arrays.compare(bought, best) > 0;
            if (cost < least || cost == least && more) {
                least = cost;
                best = bought;
            }
        }
        return i == -1 ? least : best[i];
    }

    int looser(int machine, int loose) {
        if (machine == -1) {
            all.read.clear();
        } else if (!has(machine) || !in(loose, 0, 10) || all.read.size() == 8) {
            return -2;
        } else {
            all.read.add(new int[] {machine, loose});
        }
        return all.read.size();
    }

    int whose() {
        int bits = 0;
        for (int t = 0; t < all.texts.size(); t++) {
            boolean so = true;
            for (int[] r : all.read) {
                so &= loose(all.texts.get(t), all.bank, r[0]) == r[1];
            }
            bits += so ? 1 << t : 0;
        }
        return bits;
    }

    int forgiven(int limit) {
        if (!in(limit, 0, 9999)) {
            return -1;
        }
        int best = 0;
        int bestTogether = 0;
        for (int set = 0; set < 1 << all.bank.machines.size(); set++) {
            int together = 0;
            for (int m = 0; m < all.bank.machines.size(); m++) {
                together += (set >> m & 1) * at(m).sum;
            }
            int more = Integer.bitCount(set) - Integer.bitCount(best);
            if (together <= limit && (more > 0 || more == 0 && together < bestTogether)) {
                best = set;
                bestTogether = together;
            }
        }
        return best;
    }

    int snow() {
        int n = 0;
        for (Machine m : all.bank.machines) {
            n += ("" + m.sum).replaceAll("[^0]", "").length();
        }
        return n;
    }

    int worn() {
        for (int wear = 99; wear >= 0; wear--) {
            for (int m = 0; m < all.bank.machines.size(); m++) {
                if (at(m).wear == wear) {
                    return m;
                }
            }
        }
        return -1;
    }

    int blank() {
        int bits = 0;
        for (int m = 0; m < all.bank.machines.size(); m++) {
            bits += at(m).roll.isEmpty() ? 1 << m : 0;
        }
        return bits;
    }

    int ledger(int machine) {
        if (machine != -1 && !has(machine)) {
            return -2;
        }
        int n = 0;
        for (int[] row : all.bank.book) {
            n += machine == -1 || row[1] == machine ? 1 : 0;
        }
        return n;
    }

    int image() {
        image = all.copy();
        return all.bank.night;
    }

    int back() {
        all = image.copy();
        return all.bank.night;
    }

    int about(int what) {
        switch (what) {
            case 0: return all.bank.machines.size();
            case 1: return all.texts.size();
            case 2: return all.by;
            case 3: return all.past.size();
            case 4: return all.strip.length();
            case 5: return all.other.length();
            case 6: return all.days.size();
            case 7: return all.read.size();
            case 8: return tape.length();
            default: return -2;
        }
    }
}
