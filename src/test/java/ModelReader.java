import java.util.ArrayList;
import java.util.List;
import java.util.Set;
import java.util.TreeMap;

/** Reads a text as the document says it, into clauses whose laws are functions; a fault is thrown. */
final class ModelReader {
    private static final Set<String> NAMES = Set.of("night", "brass", "wear", "oil", "sum", "who", "long", "same");
    private static final String[] LONGEST_FIRST =
            {"<=", ">=", "<", ">", "=", "#", "+", "-", "*", "/", "(", ")", ";"};

    private final String source;
    private final TreeMap<Integer, String> tokens = new TreeMap<>();
    private int at;
    private int open;
    private String law;

    ModelReader(String source) {
        this.source = source;
        int i = 0;
        while (i < source.length()) {
            int from = i;
            if (" \n".indexOf(source.charAt(i)) >= 0) {
                i++;
                continue;
            }
            while (i < source.length() && ("" + source.charAt(i)).matches("[a-zA-Z]")) {
                i++;
            }
            if (i == from) {
                while (i < source.length() && ("" + source.charAt(i)).matches("[0-9]")) {
                    i++;
                }
            }
            for (String s : LONGEST_FIRST) {
                if (i == from && source.startsWith(s, i)) {
                    i += s.length();
                }
            }
            i = Math.max(i, from + 1);
            tokens.put(from, source.substring(from, i));
        }
        at = place(0);
    }

    private int place(int from) {
        Integer next = tokens.ceilingKey(from);
        return next == null ? source.length() : next;
    }

    /** The token, "" at the end. */
    private String token() {
        return tokens.getOrDefault(at, "");
    }

    private String take() {
        String token = token();
        at = place(at + 1);
        return token;
    }

    private Model.Fault fault(int number) {
        return new Model.Fault(number, at);
    }

    private void take(String due) {
        if (!token().equals(due)) {
            throw fault(1);
        }
        take();
    }

    private int number(int low, int high) {
        if (!token().matches("[0-9]+")) {
            throw fault(1);
        }
        java.math.BigInteger value = new java.math.BigInteger(token());
        if (value.compareTo(java.math.BigInteger.valueOf(low)) < 0
                || value.compareTo(java.math.BigInteger.valueOf(high)) > 0) {
            throw fault(2);
        }
        take();
        return value.intValue();
    }

    List<Model.Clause> read() {
        List<Model.Clause> clauses = new ArrayList<>();
        List<String> laws = List.of("loose", "believes", "wears");
        List<String> others = List.of("machine", "strict", "slack", "crank", "oil", "lift", "night");
        while (!token().isEmpty()) {
            Model.Clause clause = new Model.Clause();
            clause.word = token();
            if (!laws.contains(clause.word) && !others.contains(clause.word)) {
                throw fault(1);
            }
            if (laws.contains(clause.word) && Model.lawOf(clauses, clause.word) != null) {
                throw fault(4);
            }
            if (clauses.size() == 24) {
                throw fault(6);
            }
            take();
            if (laws.contains(clause.word)) {
                law = clause.word;
                clause.law = sum();
            } else {
                parts(clause);
            }
            take(";");
            clauses.add(clause);
        }
        return clauses;
    }

    private void parts(Model.Clause c) {
        switch (c.word) {
            case "machine": c.a = number(0, 9); take("wear"); c.b = number(0, 99); break;
            case "strict":
            case "slack": c.a = number(0, 9); take("to"); c.b = number(0, 110); break;
            case "crank": c.a = number(0, 9999); take("by"); c.b = number(0, 4); break;
            case "oil": c.a = number(0, 4); take("by"); c.b = number(0, 9); break;
            case "lift": c.a = number(0, 4); break;
            default: c.a = number(1, 60); break;
        }
    }

    private static int held(long v) {
        return (int) Math.min(1000000, Math.max(-1000000, v));
    }

    private Model.Sum sum() {
        Model.Sum left = product();
        while (token().equals("+") || token().equals("-")) {
            boolean plus = take().equals("+");
            Model.Sum before = left;
            Model.Sum right = product();
            left = a -> held((long) before.applyAsInt(a) + (plus ? 1 : -1) * right.applyAsInt(a));
        }
        return left;
    }

    private Model.Sum product() {
        Model.Sum left = one();
        while (token().equals("*") || token().equals("/")) {
            boolean times = take().equals("*");
            Model.Sum before = left;
            Model.Sum right = one();
            left = a -> {
                long l = before.applyAsInt(a);
                long r = right.applyAsInt(a);
                return held(times ? l * r : r == 0 ? 0 : l / r);
            };
        }
        return left;
    }

    private void opened() {
        if (open == 8) {
            throw fault(3);
        }
        open++;
        take();
    }

    private Model.Sum one() {
        String token = token();
        if (token.matches("[0-9]+")) {
            int n = number(0, 9999);
            return a -> n;
        }
        if (NAMES.contains(token)) {
            return name(token);
        }
        if (!Set.of("(", "-", "digits", "sums", "if").contains(token)) {
            throw fault(1);
        }
        opened();
        Model.Sum made;
        if (token.equals("(")) {
            made = sum();
            take(")");
        } else if (token.equals("if")) {
            made = choice();
        } else {
            Model.Sum inner = one();
            made = token.equals("-") ? a -> -inner.applyAsInt(a)
                    : token.equals("digits") ? a -> cross(inner.applyAsInt(a))
                    : a -> sumOf(a, inner.applyAsInt(a));
        }
        open--;
        return made;
    }

    private static int cross(int v) {
        return ("" + Math.abs(v)).chars().map(c -> c - '0').sum();
    }

    private static int sumOf(Model.Asked a, int who) {
        return who < 0 || who >= a.bank.machines.size() ? 0 : a.bank.machines.get(who).sum;
    }

    private Model.Sum name(String name) {
        boolean believes = law.equals("believes");
        if (name.equals("long") && law.equals("loose") || name.equals("same") && !believes) {
            throw fault(5);
        }
        take();
        switch (name) {
            case "night": return a -> a.bank.night;
            case "brass": return a -> a.it().brass;
            case "wear": return a -> a.it().wear;
            case "oil": return a -> a.it().oil;
            case "sum": return a -> a.it().sum;
            case "who": return a -> a.who;
            case "long": return a -> a.it().roll.length();
            default: return a -> a.it().roll.length() == ("" + a.it().sum).length() ? 1 : 0;
        }
    }

    private Model.Sum choice() {
        Model.Sum ask = either();
        take("then");
        Model.Sum yes = sum();
        take("else");
        Model.Sum no = sum();
        take("end");
        return a -> ask.applyAsInt(a) == 1 ? yes.applyAsInt(a) : no.applyAsInt(a);
    }

    private Model.Sum either() {
        Model.Sum left = both();
        while (token().equals("or")) {
            take();
            Model.Sum before = left;
            Model.Sum right = both();
            left = a -> before.applyAsInt(a) + right.applyAsInt(a) > 0 ? 1 : 0;
        }
        return left;
    }

    private Model.Sum both() {
        Model.Sum left = ask();
        while (token().equals("and")) {
            take();
            Model.Sum before = left;
            Model.Sum right = ask();
            left = a -> before.applyAsInt(a) * right.applyAsInt(a);
        }
        return left;
    }

    private Model.Sum ask() {
        if (token().equals("not")) {
            opened();
            Model.Sum inner = ask();
            open--;
            return a -> 1 - inner.applyAsInt(a);
        }
        Model.Sum left = sum();
        String sign = token();
        if (!Set.of("<", "<=", ">", ">=", "=", "#").contains(sign)) {
            throw fault(1);
        }
        take();
        Model.Sum right = sum();
        return a -> holds(sign, left.applyAsInt(a), right.applyAsInt(a)) ? 1 : 0;
    }

    private static boolean holds(String sign, int l, int r) {
        switch (sign) {
            case "<": return l < r;
            case "<=": return l <= r;
            case ">": return l > r;
            case ">=": return l >= r;
            case "=": return l == r;
            default: return l != r;
        }
    }
}
