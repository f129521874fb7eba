import java.util.ArrayDeque;

/** The texts of acts once more, by other means than the class: a fault by a list of states, a value by cutting up. */
final class PlainText {
    static final String[] NAMES = {"fgvscy", "dlwsn"};

    private final String names;
    private final int[] values;

    PlainText(int kind, int... values) {
        names = NAMES[kind];
        this.values = values;
    }

    /** The place of the fault; -1 if there is none. */
    static int fault(String text, int kind) {
        ArrayDeque<Boolean> open = new ArrayDeque<>();
        boolean compared = false;
        boolean tested = false;
        boolean wantsOperand = true;
        int digits = 0;
        for (int i = 0; i < text.length(); i++) {
            char c = text.charAt(i);
            boolean isDigit = c >= '0' && c <= '9';
            if (wantsOperand && c == '(' && open.size() < 10) {
                open.push(compared);
                compared = false;
            } else if (wantsOperand && (isDigit || NAMES[kind].indexOf(c) >= 0)) {
                wantsOperand = false;
                digits = isDigit ? 1 : 0;
            } else if (wantsOperand) {
                return i;
            } else if (isDigit && digits > 0 && digits < 6) {
                digits++;
            } else if ("+-*/%".indexOf(c) >= 0) {
                wantsOperand = true;
            } else if ("<=>".indexOf(c) >= 0 && !compared) {
                compared = true;
                wantsOperand = true;
            } else if (c == ')' && !open.isEmpty()) {
                compared = open.pop();
                digits = 0;
            } else if (c == '?' && open.isEmpty() && !tested) {
                tested = true;
                compared = false;
                wantsOperand = true;
            } else if (c == ';' && open.isEmpty()) {
                tested = false;
                compared = false;
                wantsOperand = true;
            } else {
                return i;
            }
        }
        boolean ends = open.isEmpty() && (!wantsOperand || text.endsWith(";"));
        return ends ? -1 : text.length();
    }

    /** The place of the clause that gives; -1 if none does. */
    int givingClause(String text) {
        String[] clauses = text.split(";");
        for (int i = 0; i < clauses.length; i++) {
            int mark = clauses[i].indexOf('?');
            if (mark < 0 || valueOf(clauses[i].substring(0, mark)) != 0) {
                return i;
            }
        }
        return -1;
    }

    int given(String text) {
        int clause = givingClause(text);
        if (clause < 0) {
            return 0;
        }
        String giving = text.split(";")[clause];
        return valueOf(giving.substring(giving.indexOf('?') + 1));
    }

    /** Cuts at the sign that is done last, which is the last one of the loosest signs outside of all parentheses. */
    private int valueOf(String e) {
        for (String signs : new String[] {"<=>", "+-", "*/%"}) {
            int depth = 0;
            for (int i = e.length() - 1; i >= 0; i--) {
                char c = e.charAt(i);
                depth += c == ')' ? 1 : c == '(' ? -1 : 0;
                if (depth == 0 && signs.indexOf(c) >= 0) {
                    return join(c, valueOf(e.substring(0, i)), valueOf(e.substring(i + 1)));
                }
            }
        }
        if (e.charAt(0) == '(') {
            return valueOf(e.substring(1, e.length() - 1));
        }
        int name = names.indexOf(e.charAt(0));
        return name >= 0 ? values[name] : Integer.parseInt(e);
    }

    private static int join(char sign, long left, long right) {
        switch (sign) {
            case '<': return left < right ? 1 : 0;
            case '=': return left == right ? 1 : 0;
            case '>': return left > right ? 1 : 0;
            case '+': return (int) (left + right);
            case '-': return (int) (left - right);
            case '*': return (int) (left * right);
            case '/': return right == 0 ? 0 : (int) (left / right);
            default: return right == 0 ? 0 : (int) (left % right);
        }
    }
}
