import java.util.ArrayList;
import java.util.List;

/**
 * Every call with every number at which the document has an edge, too small and too large ones among them, in banks
 * that are new, small, full and late: each answer is held against the Model's, and none may throw.
 */
public final class SweepTest {
    private static final int[] EDGES = {Due.LOW, Due.LOW + 1, -10001, -3, -2, -1, 0, 1, 2, 3, 4, 5, 6, 7, 8, 9, 10, 11, 12, 13,
        14, 17, 18, 20, 21, 22, 29, 30, 31, 39, 40, 41, 59, 60, 61, 98, 99, 100, 109, 110, 111, 280, 299, 300, 301, 998,
        999, 1000, 9998, 9999, 10000, 10001, 65536, Due.HIGH - 1, Due.HIGH};
    private static final int[] FEW = {-1, 0, 1, 4, 8};
    private static final int BANKS = 4;
    /** An object is used for at most 512 calls; a late one needs some 280 to be made. */
    private static final int CALLS = 200;
    private static final String[] NAMES = {"machine", "rule strict", "rule loose", "end", "fault", "by", "crank", "oil", "lift",
        "night", "played", "decades", "of", "told strict", "told loose", "is", "book", "foretold", "put", "may", "odds upper",
        "odds lower", "day", "likeliest", "add", "second", "duet", "common", "grows", "likes clerk", "likes machine",
        "paired", "blocks", "needs", "stock", "looser", "forgiven", "ledger", "about"};
    private static final int[] PARTS = {2, 2, 2, 1, 1, 1, 2, 2, 1, 1, 1, 2, 2, 1, 1, 1, 2, 3, 1, 1, 2, 2, 1, 1, 1, 1, 2, 1, 2,
        3, 3, 1, 2, 2, 3, 2, 1, 1, 1};
    private static final Due due = new Due();

    public static void main(String[] args) {
        for (int bank = 0; bank < BANKS; bank++) {
            for (int which = 0; which < NAMES.length; which++) {
                sweep(bank, which);
            }
        }
        due.finish("SweepTest");
    }

    private static void sweep(int bank, int which) {
        due.promise(NAMES[which] + " in bank " + bank);
        List<int[]> rows = rows(PARTS[which]);
        MachinesDream x = null;
        Model m = null;
        for (int k = 0; k < rows.size(); k++) {
            if (k % CALLS == 0) {
                x = new MachinesDream();
                m = new Model();
                build(x, m, bank);
            }
            int[] r = rows.get(k);
            due.is("(" + r[0] + ", " + r[1] + ", " + r[2] + ")", ours(x, which, r), theirs(m, which, r));
        }
        for (int what = 0; what <= 8; what++) {
            due.is("about(" + what + ") behind it", x.about(what), m.about(what));
        }
        due.is("is(0) behind it", x.is(0), m.is(0));
        due.is("is(1) behind it", x.is(1), m.is(1));
    }

    /** Each part in turn goes through all edges, the others through a few. */
    private static List<int[]> rows(int parts) {
        List<int[]> rows = new ArrayList<>();
        for (int part = 0; part < parts; part++) {
            for (int edge : EDGES) {
                for (int a = 0; a < (parts > 1 ? FEW.length : 1); a++) {
                    for (int b = 0; b < (parts > 2 ? FEW.length : 1); b++) {
                        int[] row = {FEW[a], FEW[a], FEW[b]};
                        row[(part + 1) % 3] = FEW[a];
                        row[(part + 2) % 3] = FEW[parts > 2 ? b : a];
                        row[part] = edge;
                        rows.add(row);
                    }
                }
            }
        }
        return rows;
    }

    private static void build(MachinesDream x, Model m, int bank) {
        if (bank == 3) {
            for (int k = 0; k < 166; k++) {
                x.night(60);
                m.night(60);
            }
        }
        int machines = bank == 0 ? 0 : bank == 2 ? 5 : 2;
        for (int k = 0; k < machines; k++) {
            x.machine(3 * k % 10, 97 - 20 * k);
            m.machine(3 * k % 10, 97 - 20 * k);
            x.crank(k, 1010 * k + 7);
            m.crank(k, 1010 * k + 7);
        }
        if (bank > 0) {
            text(x, m, "loose oil+who;believes 4+same;wears long/2;oil 0 by 3;night 2;lift 0;");
            text(x, m, "crank 9 by 1;");
            x.night(2);
            m.night(2);
            x.by(0);
            m.by(0);
        }
        for (int k = 0; k < 6 * bank; k++) {
            x.put(k % 3);
            m.put(k % 3);
            x.second(k % 2);
            m.second(k % 2);
            x.day(101 * k);
            m.day(101 * k);
            x.looser(k % 2, k % 5);
            m.looser(k % 2, k % 5);
            x.needs(k % 8, 3 * k);
            m.needs(k % 8, 3 * k);
        }
    }

    private static void text(MachinesDream x, Model m, String text) {
        Due.text(x, text);
        m.tape = text;
        m.text();
    }

    private static long bit(boolean b) {
        return b ? 1 : 0;
    }

    private static long ours(MachinesDream x, int which, int[] r) {
        switch (which) {
            case 0: return x.machine(r[0], r[1]);
            case 1: return bit(x.rule(r[0], false, r[1]));
            case 2: return bit(x.rule(r[0], true, r[1]));
            case 3: return x.end(r[0]);
            case 4: return x.fault(r[0]);
            case 5: return bit(x.by(r[0]));
            case 6: return x.crank(r[0], r[1]);
            case 7: return bit(x.oil(r[0], r[1]));
            case 8: return bit(x.lift(r[0]));
            case 9: return x.night(r[0]);
            case 10: return x.played(r[0]);
            case 11: return x.decades(r[0], r[1]);
            case 12: return x.of(r[0], r[1]);
            case 13: return x.told(r[0], false);
            case 14: return x.told(r[0], true);
            case 15: return x.is(r[0]);
            case 16: return x.book(r[0], r[1]);
            case 17: return x.foretold(r[0], r[1], r[2]);
            case 18: return x.put(r[0]);
            case 19: return x.may(r[0]);
            case 20: return x.odds(r[0], r[1], false);
            case 21: return x.odds(r[0], r[1], true);
            case 22: return x.day(r[0]);
            case 23: return x.likeliest(r[0]);
            case 24: return x.add(r[0]);
            case 25: return x.second(r[0]);
            case 26: return x.duet(r[0], r[1]);
            case 27: return x.common(r[0]);
            case 28: return x.grows(r[0], r[1]);
            case 29: return bit(x.likes(true, r[0], r[1], r[2]));
            case 30: return bit(x.likes(false, r[0], r[1], r[2]));
            case 31: return x.paired(r[0]);
            case 32: return x.blocks(r[0], r[1]);
            case 33: return bit(x.needs(r[0], r[1]));
            case 34: return x.stock(r[0], r[1], r[2]);
            case 35: return x.looser(r[0], r[1]);
            case 36: return x.forgiven(r[0]);
            case 37: return x.ledger(r[0]);
            default: return x.about(r[0]);
        }
    }

    private static long theirs(Model m, int which, int[] r) {
        switch (which) {
            case 0: return m.machine(r[0], r[1]);
            case 1: return bit(m.rule(r[0], false, r[1]));
            case 2: return bit(m.rule(r[0], true, r[1]));
            case 3: return m.end(r[0]);
            case 4: return m.fault(r[0]);
            case 5: return bit(m.by(r[0]));
            case 6: return m.crank(r[0], r[1]);
            case 7: return bit(m.oil(r[0], r[1]));
            case 8: return bit(m.lift(r[0]));
            case 9: return m.night(r[0]);
            case 10: return m.played(r[0]);
            case 11: return m.decades(r[0], r[1]);
            case 12: return m.of(r[0], r[1]);
            case 13: return m.told(r[0], false);
            case 14: return m.told(r[0], true);
            case 15: return m.is(r[0]);
            case 16: return m.book(r[0], r[1]);
            case 17: return m.foretold(r[0], r[1], r[2]);
            case 18: return m.put(r[0]);
            case 19: return m.may(r[0]);
            case 20: return m.odds(r[0], r[1], false);
            case 21: return m.odds(r[0], r[1], true);
            case 22: return m.day(r[0]);
            case 23: return m.likeliest(r[0]);
            case 24: return m.add(r[0]);
            case 25: return m.second(r[0]);
            case 26: return m.duet(r[0], r[1]);
            case 27: return m.common(r[0]);
            case 28: return m.grows(r[0], r[1]);
            case 29: return bit(m.likes(true, r[0], r[1], r[2]));
            case 30: return bit(m.likes(false, r[0], r[1], r[2]));
            case 31: return m.paired(r[0]);
            case 32: return m.blocks(r[0], r[1]);
            case 33: return bit(m.needs(r[0], r[1]));
            case 34: return m.stock(r[0], r[1], r[2]);
            case 35: return m.looser(r[0], r[1]);
            case 36: return m.forgiven(r[0]);
            case 37: return m.ledger(r[0]);
            default: return m.about(r[0]);
        }
    }
}
