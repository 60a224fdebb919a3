import java.util.ArrayList;
import java.util.List;

/**
 * Laws and minds in the plainest way, apart from the program: the fault by a machine that goes over the bytes,
 * the worth by cutting the text at its signs.
 */
final class PlainText {
    private PlainText() {
    }

    /** Where a text stands between two bytes. */
    private enum State { LABEL, COLON, FIRST, UNIT, SUM, SUM_BEHIND_RELATION, LAST_SUM, ATOM, DIGITS, ATOM_DONE, UNIT_DONE }

    /** The fault by the document's words; -1 if there is none. */
    static int fault(String text, boolean law) {
        String labels = law ? "sld" : "nc";
        String letters = law ? "aktfm" : "heotkaqwgf";
        // what is open: ( [ ! and, for each sum, which one it is: A (may be the clause's or a relation's first),
        // L (a relation's first), R (a relation's second), S (the clause's last)
        StringBuilder open = new StringBuilder();
        State state = State.LABEL;
        int digits = 0;
        for (int i = 0; i < text.length(); i++) {
            char c = text.charAt(i);
            if (state == State.DIGITS) {
                if (Character.isDigit(c) && c < 128) {
                    if (++digits > 4) {
                        return i;
                    }
                    continue;
                }
                state = State.ATOM_DONE;
            }
            if (c == ' ') {
                continue;
            }
            switch (state) {
                case LABEL:
                    if (labels.indexOf(c) < 0) {
                        return i;
                    }
                    state = State.COLON;
                    break;
                case COLON:
                    if (c != ':') {
                        return i;
                    }
                    state = State.FIRST;
                    break;
                case FIRST:
                case UNIT:
                case ATOM:
                    if (state != State.ATOM && (c == '!' || c == '(')) {
                        if (depth(open) == 6) {
                            return i;
                        }
                        if (open.length() == 0) {
                            open.append('C');
                        }
                        open.append(c);
                        state = State.UNIT;
                        break;
                    }
                    if (state == State.FIRST) {
                        open.append('A');
                    } else if (state == State.UNIT) {
                        open.append('L');
                    }
                    if (c == '[') {
                        if (depth(open) == 6) {
                            return i;
                        }
                        open.append('[');
                        state = State.ATOM;
                    } else if (c >= '0' && c <= '9') {
                        digits = 1;
                        state = State.DIGITS;
                    } else if (letters.indexOf(c) >= 0) {
                        state = State.ATOM_DONE;
                    } else {
                        return i;
                    }
                    break;
                case ATOM_DONE:
                case UNIT_DONE:
                    if (state == State.ATOM_DONE) {
                        if ("+-*/".indexOf(c) >= 0) {
                            state = State.ATOM;
                            break;
                        }
                        char top = open.charAt(open.length() - 1);
                        if (top == '[') {
                            if (c != ']') {
                                return i;
                            }
                            open.setLength(open.length() - 1);
                            break;
                        }
                        if (top == 'A' || top == 'L') {
                            if ("=<>".indexOf(c) >= 0) {
                                open.setLength(open.length() - 1);
                                if (top == 'A') {
                                    open.append('C');
                                }
                                open.append('R');
                                state = State.ATOM;
                                break;
                            }
                            if (top == 'A' && c == ';') {
                                open.setLength(0);
                                state = State.LABEL;
                                break;
                            }
                            return i;
                        }
                        if (top == 'S') {
                            if (c != ';') {
                                return i;
                            }
                            open.setLength(0);
                            state = State.LABEL;
                            break;
                        }
                        open.setLength(open.length() - 1);
                        closeNots(open);
                    }
                    if (c == '&' || c == '|') {
                        state = State.UNIT;
                    } else if (c == ')' && open.charAt(open.length() - 1) == '(') {
                        open.setLength(open.length() - 1);
                        closeNots(open);
                        state = State.UNIT_DONE;
                    } else if (c == '?' && open.toString().equals("C")) {
                        open.setLength(0);
                        open.append('S');
                        state = State.ATOM;
                    } else {
                        return i;
                    }
                    break;
                default:
                    throw new AssertionError();
            }
        }
        boolean whole = (state == State.DIGITS || state == State.ATOM_DONE)
            && (open.toString().equals("A") || open.toString().equals("S"));
        return whole ? -1 : text.length();
    }

    private static int depth(StringBuilder open) {
        int n = 0;
        for (int i = 0; i < open.length(); i++) {
            if ("([!".indexOf(open.charAt(i)) >= 0) {
                n++;
            }
        }
        return n;
    }

    private static void closeNots(StringBuilder open) {
        while (open.length() > 0 && open.charAt(open.length() - 1) == '!') {
            open.setLength(open.length() - 1);
        }
    }

    /** The worth of a label of a text without fault, letters by their place in the alphabet; null if there is none. */
    static Long worth(String text, int label, int[] letters) {
        for (String clause : text.replace(" ", "").split(";")) {
            if (clause.charAt(0) != label) {
                continue;
            }
            String rest = clause.substring(2);
            int asked = rest.indexOf('?');
            if (asked < 0 || holds(rest.substring(0, asked), letters)) {
                return sum(rest.substring(asked + 1), letters);
            }
        }
        return null;
    }

    private static boolean holds(String condition, int[] letters) {
        for (String truth : cut(condition, "|")) {
            boolean all = true;
            for (String unit : cut(truth, "&")) {
                all &= unitHolds(unit, letters);
            }
            if (all) {
                return true;
            }
        }
        return false;
    }

    private static boolean unitHolds(String unit, int[] letters) {
        if (unit.charAt(0) == '!') {
            return !unitHolds(unit.substring(1), letters);
        }
        if (unit.charAt(0) == '(') {
            return holds(unit.substring(1, unit.length() - 1), letters);
        }
        List<String> sides = cut(unit, "=<>");
        long one = sum(sides.get(0), letters);
        long other = sum(sides.get(1), letters);
        char sign = unit.charAt(sides.get(0).length());
        return sign == '=' ? one == other : sign == '<' ? one < other : one > other;
    }

    /** The last sign that stands open is the one that is done last. */
    private static long sum(String sum, int[] letters) {
        for (String signs : new String[] {"+-", "*/"}) {
            List<String> pieces = cut(sum, signs);
            if (pieces.size() > 1) {
                String last = pieces.get(pieces.size() - 1);
                int at = sum.length() - last.length() - 1;
                long one = sum(sum.substring(0, at), letters);
                long other = sum(last, letters);
                switch (sum.charAt(at)) {
                    case '+': return within(one + other);
                    case '-': return within(one - other);
                    case '*': return within(one * other);
                    default: return other == 0 ? 0 : within(one / other);
                }
            }
        }
        if (sum.charAt(0) == '[') {
            return sum(sum.substring(1, sum.length() - 1), letters);
        }
        return Character.isDigit(sum.charAt(0)) ? Long.parseLong(sum) : letters[sum.charAt(0) - 'a'];
    }

    private static long within(long value) {
        return Math.max(-1000000, Math.min(1000000, value));
    }

    /** The pieces between signs that stand in no ( and no [. */
    private static List<String> cut(String text, String signs) {
        List<String> pieces = new ArrayList<>();
        int depth = 0;
        int from = 0;
        for (int i = 0; i < text.length(); i++) {
            char c = text.charAt(i);
            depth += c == '(' || c == '[' ? 1 : c == ')' || c == ']' ? -1 : 0;
            if (depth == 0 && signs.indexOf(c) >= 0) {
                pieces.add(text.substring(from, i));
                from = i + 1;
            }
        }
        pieces.add(text.substring(from));
        return pieces;
    }
}
