/** A law's text by other means than TwoAlike's: faults by a stack of what is open, worth by cutting the text apart. */
final class Text {
    private static final String NAMES = "dabhme";

    private Text() {
    }

    /** The place of the first byte with which no text goes on; the length if it ends too early; -1: none. */
    static int fault(String text) {
        StringBuilder open = new StringBuilder();
        boolean[] compared = new boolean[8];
        boolean asked = false, wantsOperand = true;
        int brackets = 0, digits = 0;
        for (int at = 0; at < text.length(); at++) {
            char c = text.charAt(at);
            boolean digit = c >= '0' && c <= '9';
            if (digit && digits > 0) {
                if (digits == 4) return at;
                digits++;
                continue;
            }
            digits = 0;
            if (wantsOperand) {
                if (c == '(' || c == '!' || c == '-') {
                    if (open.length() == 6) return at;
                    open.append(c);
                    if (c == '(') compared[++brackets] = false;
                } else if (digit || NAMES.indexOf(c) >= 0) {
                    digits = digit ? 1 : 0;
                    closeSigns(open);
                    wantsOperand = false;
                } else {
                    return at;
                }
                continue;
            }
            if (c == ')') {
                if (brackets == 0) return at;
                brackets--;
                open.setLength(open.length() - 1);
                closeSigns(open);
                continue;
            }
            if (c == '<' || c == '=' || c == '>') {
                if (compared[brackets]) return at;
                compared[brackets] = true;
            } else if (c == '|' || c == '&') {
                compared[brackets] = false;
            } else if (c == '?' || c == ';') {
                if (brackets > 0 || (c == '?' && asked)) return at;
                asked = c == '?';
                compared[0] = false;
            } else if ("+-*/%".indexOf(c) < 0) {
                return at;
            }
            wantsOperand = true;
        }
        return wantsOperand || brackets > 0 ? text.length() : -1;
    }

    private static void closeSigns(StringBuilder open) {
        while (open.length() > 0 && open.charAt(open.length() - 1) != '(') open.setLength(open.length() - 1);
    }

    /** What a text without a fault gives; values of d a b h m e. */
    static int worth(String text, int[] values) {
        for (String line : text.split(";")) {
            String[] parts = line.split("\\?");
            if (parts.length == 1) return cut(parts[0], values);
            if (cut(parts[0], values) != 0) return cut(parts[1], values);
        }
        return 0;
    }

    private static int cut(String t, int[] values) {
        for (String signs : new String[] {"|", "&", "<=>", "+-", "*/%"}) {
            int at = lastOutside(t, signs);
            if (at < 0) continue;
            int left = cut(t.substring(0, at), values);
            int right = cut(t.substring(at + 1), values);
            return join(t.charAt(at), left, right);
        }
        if (t.charAt(0) == '!') return cut(t.substring(1), values) == 0 ? 1 : 0;
        if (t.charAt(0) == '-') return -cut(t.substring(1), values);
        if (t.charAt(0) == '(') return cut(t.substring(1, t.length() - 1), values);
        int name = NAMES.indexOf(t.charAt(0));
        return name >= 0 ? values[name] : Integer.parseInt(t);
    }

    private static int lastOutside(String t, String signs) {
        int depth = 0;
        for (int at = t.length() - 1; at > 0; at--) {
            char c = t.charAt(at);
            if (c == ')') depth++;
            if (c == '(') depth--;
            if (depth > 0 || signs.indexOf(c) < 0) continue;
            char ahead = t.charAt(at - 1);
            boolean behindOperand = ahead == ')' || Character.isLetterOrDigit(ahead);
            if (behindOperand) return at;
        }
        return -1;
    }

    private static int join(char sign, int left, int right) {
        switch (sign) {
            case '|': return (left != 0) | (right != 0) ? 1 : 0;
            case '&': return (left != 0) & (right != 0) ? 1 : 0;
            case '<': return left < right ? 1 : 0;
            case '=': return left == right ? 1 : 0;
            case '>': return left > right ? 1 : 0;
            case '+': return left + right;
            case '-': return left - right;
            case '*': return left * right;
            case '/': return right == 0 ? 0 : left / right;
            default: return right == 0 ? 0 : left % right;
        }
    }
}
