import java.math.BigInteger;
import java.util.Set;

/**
 * A formula for the Oracle, kept as the document writes it: cut out of a sound text, told
 * apart by how it is printed, and differentiated into another formula.
 */
final class Tree {
    private static final BigInteger ROUND = BigInteger.ONE.shiftLeft(64);

    /** '1' a number, 'a' a name, 'n' a sign -, '+', '-', '*', '^'. */
    private final char kind;
    private final BigInteger number;
    private final Tree left;
    private final Tree right;
    private final int place;

    private Tree(char kind, long number, Tree left, Tree right, int place) {
        this.kind = kind;
        this.number = BigInteger.valueOf(number);
        this.left = left;
        this.right = right;
        this.place = place;
    }

    private static Tree ofNumber(long number) {
        return new Tree('1', number, null, null, -1);
    }

    private static Tree of(char kind, Tree left, Tree right) {
        return new Tree(kind, 0, left, right, -1);
    }

    /** The tree of a sound text that stands from a place on. */
    static Tree of(String text, int from) {
        int cut = lastOutside(text, "+-");
        if (cut < 0) {
            cut = lastOutside(text, "*");
        }
        if (cut >= 0) {
            return new Tree(text.charAt(cut), 0, of(text.substring(0, cut), from),
                    of(text.substring(cut + 1), from + cut + 1), from + cut);
        }
        return ofPart(text, from);
    }

    /** Where the last such sign stands that is outside of parentheses and between two sides. */
    private static int lastOutside(String text, String signs) {
        int open = 0;
        int last = -1;
        for (int at = 0; at < text.length(); at++) {
            char sign = text.charAt(at);
            open += sign == '(' ? 1 : sign == ')' ? -1 : 0;
            boolean between = at > 0 && "+-*(".indexOf(text.charAt(at - 1)) < 0;
            if (open == 0 && between && signs.indexOf(sign) >= 0) {
                last = at;
            }
        }
        return last;
    }

    /** Signs - ahead, powers behind: the first power is the base's, the others the signs'. */
    private static Tree ofPart(String text, int from) {
        int minuses = 0;
        while (text.charAt(minuses) == '-') {
            minuses++;
        }
        int end = text.length();
        while (end >= 2 && text.charAt(end - 2) == '^') {
            end -= 2;
        }
        Tree tree = ofBase(text.substring(minuses, end), from + minuses);
        int power = end;
        for (int wrapped = 0; wrapped <= minuses; wrapped++) {
            if (power < text.length()) {
                tree = new Tree('^', text.charAt(power + 1) - '0', tree, null, -1);
                power += 2;
            }
            if (wrapped < minuses) {
                tree = of('n', tree, null);
            }
        }
        return tree;
    }

    private static Tree ofBase(String text, int from) {
        if (text.charAt(0) == '(') {
            return of(text.substring(1, text.length() - 1), from + 1);
        }
        if (text.charAt(0) >= 'a') {
            return new Tree('a', text.charAt(0) - 'a', null, null, -1);
        }
        return ofNumber(Long.parseLong(text));
    }

    /** Prints the tree, and gathers how all trees within it are printed. */
    String print(Set<String> within) {
        String text = "(" + kind + number + (left == null ? "" : left.print(within))
                + (right == null ? "" : right.print(within)) + ")";
        within.add(text);
        return text;
    }

    static BigInteger round(BigInteger number) {
        return BigInteger.valueOf(number.longValue());
    }

    BigInteger reckon(int[] estimates) {
        switch (kind) {
            case '1': return number;
            case 'a': return BigInteger.valueOf(estimates[number.intValue()]);
            case 'n': return round(left.reckon(estimates).negate());
            case '+': return round(left.reckon(estimates).add(right.reckon(estimates)));
            case '-': return round(left.reckon(estimates).subtract(right.reckon(estimates)));
            case '*': return round(left.reckon(estimates).multiply(right.reckon(estimates)));
            default: return round(left.reckon(estimates).mod(ROUND).modPow(number, ROUND));
        }
    }

    Tree differentiated(int input) {
        switch (kind) {
            case '1': return ofNumber(0);
            case 'a': return ofNumber(number.intValue() == input ? 1 : 0);
            case 'n': return of('n', left.differentiated(input), null);
            case '*':
                return of('+', of('*', left, right.differentiated(input)),
                        of('*', left.differentiated(input), right));
            case '^':
                if (number.signum() == 0) {
                    return ofNumber(0);
                }
                Tree less = new Tree('^', number.intValue() - 1, left, null, -1);
                return of('*', of('*', ofNumber(number.intValue()), less),
                        left.differentiated(input));
            default:
                return of(kind, left.differentiated(input), right.differentiated(input));
        }
    }

    /** Both exponents of the unit. */
    int[] unit(int[][] units) {
        switch (kind) {
            case '1':
                return new int[2];
            case 'a':
                return units[number.intValue()];
            case '*':
                int[] one = left.unit(units);
                int[] other = right.unit(units);
                return new int[] {one[0] + other[0], one[1] + other[1]};
            case '^':
                int[] base = left.unit(units);
                return new int[] {base[0] * number.intValue(), base[1] * number.intValue()};
            default:
                return left.unit(units);
        }
    }

    int disagrees(int[][] units) {
        int first = left == null ? -1 : left.disagrees(units);
        int behind = right == null ? -1 : right.disagrees(units);
        if (first < 0 || behind >= 0 && behind < first) {
            first = behind;
        }
        if ((kind == '+' || kind == '-') && (first < 0 || place < first)) {
            int[] one = left.unit(units);
            int[] other = right.unit(units);
            if (one[0] != other[0] || one[1] != other[1]) {
                return place;
            }
        }
        return first;
    }
}
