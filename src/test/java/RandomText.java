import java.util.Random;

/** Texts by chance: mostly faultless ones, some with a token changed, some of tokens in no order. */
final class RandomText {
    private static final String[] TOKENS = {
        "loose", "believes", "wears", "machine", "wear", "strict", "slack", "to", "crank", "by", "oil", "lift",
        "night", "brass", "sum", "who", "long", "same", "digits", "sums", "if", "then", "else", "end", "or", "and",
        "not", "0", "1", "7", "9", "10", "99", "100", "110", "111", "60", "61", "4", "5", "9999", "10000",
        "99999999999999999999", "007", "<", "<=", ">", ">=", "=", "#", "+", "-", "*", "/", "(", ")", ";",
        "Loose", "x", "loos", "looser", "wea", "!", "\t", "\u0000", "\u00ff", "&", "_", "{", "[", "@", "`", ":",
        "?", "'", ",", "."};
    private static final String[] NAMES = {"night", "brass", "wear", "oil", "sum", "who", "long", "same"};
    private static final String[] ASKS = {"<", "<=", ">", ">=", "=", "#"};
    private static final String[] LAWS = {"loose", "believes", "wears"};

    private final Random r;

    RandomText(Random r) {
        this.r = r;
    }

    String any() {
        String text = r.nextInt(12) == 0 ? tokens() : clauses();
        if (r.nextInt(3) == 0 && !text.isEmpty()) {
            text = changed(text);
        }
        return text.length() > 300 ? text.substring(0, 300) : text;
    }

    private String pick(String[] from) {
        return from[r.nextInt(from.length)];
    }

    private String blank() {
        int k = r.nextInt(12);
        return k < 9 ? " " : k == 9 ? "\n" : k == 10 ? "  " : " \n ";
    }

    private String gap() {
        return r.nextInt(3) == 0 ? blank() : "";
    }

    private String tokens() {
        StringBuilder text = new StringBuilder();
        int n = r.nextInt(30);
        for (int i = 0; i < n; i++) {
            text.append(pick(TOKENS)).append(gap());
        }
        return text.toString();
    }

    private String changed(String text) {
        int at = r.nextInt(text.length());
        switch (r.nextInt(4)) {
            case 0: return text.substring(0, at);
            case 1: return text.substring(0, at) + text.substring(at + 1);
            case 2: return text.substring(0, at) + blank() + pick(TOKENS) + blank() + text.substring(at);
            default: return text.substring(0, at) + (char) r.nextInt(256) + text.substring(at + 1);
        }
    }

    private String clauses() {
        StringBuilder text = new StringBuilder(gap());
        int first = r.nextInt(3);
        int laws = r.nextInt(4);
        for (int i = 0; i < laws; i++) {
            text.append(law((first + i) % 3)).append(gap());
        }
        int others = r.nextInt(20) == 0 ? 20 + r.nextInt(6) : r.nextInt(8);
        for (int i = 0; i < others; i++) {
            text.append(other()).append(gap());
        }
        if (r.nextInt(15) == 0) {
            text.append(law(r.nextInt(3)));
        }
        return text.toString();
    }

    private int upTo(int high) {
        return r.nextInt(40) == 0 ? high + 1 : r.nextInt(high + 1);
    }

    private String other() {
        switch (r.nextInt(8)) {
            case 0: return "machine " + upTo(9) + " wear " + upTo(99) + ";";
            case 1: return "strict " + upTo(9) + " to " + upTo(110) + gap() + ";";
            case 2: return "slack " + upTo(9) + gap() + "to" + gap() + upTo(110) + ";";
            case 3: return "crank " + upTo(9999) + " by " + r.nextInt(3) + ";";
            case 4: return "oil " + r.nextInt(3) + " by " + upTo(9) + ";";
            case 5: return "lift" + blank() + r.nextInt(3) + ";";
            case 6: return "crank " + r.nextInt(20) + " by " + upTo(4) + ";";
            default: return "night" + gap() + (r.nextInt(9) == 0 ? upTo(60) : 1 + r.nextInt(3)) + gap() + ";";
        }
    }

    private String law(int which) {
        String sum = sum(which, r.nextInt(5));
        return LAWS[which] + (r.nextInt(4) == 0 ? blank() : " ") + sum + gap() + ";";
    }

    private String sum(int law, int depth) {
        StringBuilder text = new StringBuilder(product(law, depth));
        while (r.nextInt(3) == 0) {
            text.append(gap()).append(r.nextBoolean() ? "+" : "-").append(gap()).append(product(law, depth));
        }
        return text.toString();
    }

    private String product(int law, int depth) {
        StringBuilder text = new StringBuilder(one(law, depth));
        while (r.nextInt(4) == 0) {
            text.append(gap()).append(r.nextBoolean() ? "*" : "/").append(gap()).append(one(law, depth));
        }
        return text.toString();
    }

    private String one(int law, int depth) {
        if (depth <= 0 || r.nextInt(4) == 0) {
            switch (r.nextInt(4)) {
                case 0: return "" + r.nextInt(12);
                case 1: return "" + (r.nextInt(30) == 0 ? upTo(9999) : r.nextInt(4) == 0 ? 9999 : r.nextInt(200));
                default: return name(law);
            }
        }
        switch (r.nextInt(7)) {
            case 0: return "(" + gap() + sum(law, depth - 1) + gap() + ")";
            case 1: return "-" + gap() + one(law, depth - 1);
            case 2: return "digits " + one(law, depth - 1);
            case 3: return "sums " + one(law, depth - 1);
            default: return "if " + either(law, depth - 1) + " then " + sum(law, depth - 1) + " else "
                    + sum(law, depth - 1) + " end";
        }
    }

    private String name(int law) {
        int n = r.nextInt(60) == 0 ? 8 : law == 1 ? 8 : law == 2 ? 7 : 6;
        return NAMES[r.nextInt(n)];
    }

    private String either(int law, int depth) {
        StringBuilder text = new StringBuilder(ask(law, depth));
        while (r.nextInt(3) == 0) {
            text.append(r.nextBoolean() ? " or " : " and ").append(ask(law, depth));
        }
        return text.toString();
    }

    private String ask(int law, int depth) {
        if (r.nextInt(5) == 0) {
            return "not " + ask(law, depth - 1);
        }
        return sum(law, depth - 1) + gap() + pick(ASKS) + gap() + sum(law, depth - 1);
    }
}
