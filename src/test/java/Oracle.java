import java.math.BigInteger;
import java.util.ArrayList;
import java.util.HashSet;
import java.util.List;
import java.util.Map;
import java.util.TreeMap;

/** What the document says, written once more in another way, with whole numbers unbounded. */
final class Oracle {
    private static final int NONE = -1;

    private final int[] estimates = new int[6];
    private final int[] sorts = new int[6];
    private final int[] widths = new int[6];
    private final int[][] units = new int[6][2];
    private final List<List<Integer>> readings = new ArrayList<>();
    private final Map<String, Integer> covariances = new TreeMap<>();
    private final List<Tree> models = new ArrayList<>();
    private final TreeMap<Integer, Integer> table = new TreeMap<>(Map.of(1, 200));
    private String line = "";
    private long x = 1;

    Oracle() {
        for (int input = 0; input < 6; input++) {
            readings.add(new ArrayList<>());
        }
    }

    private static void at(boolean fits) {
        if (!fits) {
            throw new IndexOutOfBoundsException();
        }
    }

    private static void good(boolean fits) {
        if (!fits) {
            throw new IllegalArgumentException();
        }
    }

    private static void can(boolean fits) {
        if (!fits) {
            throw new IllegalStateException();
        }
    }

    private static boolean within(int number, int least, int most) {
        return least <= number && number <= most;
    }

    int shape(int input, int estimate, int sort, int width) {
        at(within(input, 0, 5));
        good(within(estimate, -999, 999) && within(sort, 0, 3) && within(width, 0, 99)
                && (sort != 0 || width == 0));
        readings.get(input).clear();
        estimates[input] = estimate;
        sorts[input] = sort;
        widths[input] = width;
        return variance(input);
    }

    int read(int input, int value) {
        at(within(input, 0, 5));
        good(within(value, -999, 999));
        List<Integer> own = readings.get(input);
        can(own.size() < 8);
        own.add(value);
        sorts[input] = 4;
        int sum = own.stream().mapToInt(Integer::intValue).sum();
        estimates[input] = (int) Math.floor((double) sum / own.size());
        return variance(input);
    }

    private int variance(int input) {
        int square = widths[input] * widths[input];
        switch (sorts[input]) {
            case 0: return 0;
            case 1: return square / 3;
            case 2: return square / 6;
            case 3: return square / 2;
            default: break;
        }
        List<Integer> own = readings.get(input);
        int n = own.size();
        long squares = 0;
        long sum = 0;
        for (int reading : own) {
            squares += (long) reading * reading;
            sum += reading;
        }
        return n == 1 ? 0 : (int) ((n * squares - sum * sum) / ((long) n * n * (n - 1)));
    }

    int unit(int input, int first, int second) {
        at(within(input, 0, 5));
        good(within(first, -3, 3) && within(second, -3, 3));
        units[input] = new int[] {first, second};
        return (int) models.stream().filter(model -> model.disagrees(units) != NONE).count();
    }

    private static String pair(int input, int other) {
        return Math.min(input, other) + " " + Math.max(input, other);
    }

    int together(int input, int other, int value) {
        at(within(input, 0, 5) && within(other, 0, 5));
        good(input != other && within(value, -9999, 9999));
        Integer before = covariances.put(pair(input, other), value);
        return before == null ? 0 : before;
    }

    int input(int input, int what) {
        at(within(input, 0, 5));
        good(within(what, 0, 4));
        int count = readings.get(input).size();
        switch (what) {
            case 0: return estimates[input];
            case 1: return variance(input);
            case 2: return sorts[input];
            case 3: return Math.max(0, count - 1);
            default: return sorts[input] == 4 ? count : widths[input];
        }
    }

    int type(long signs) {
        StringBuilder typed = new StringBuilder();
        long rest = signs;
        while (rest != 0) {
            int sign = (int) (rest & 255);
            good(within(sign, 32, 126));
            typed.append((char) sign);
            rest >>>= 8;
        }
        can(line.length() + typed.length() <= 60);
        line += typed;
        return line.length();
    }

    int model(int model) {
        at(within(model, 0, models.size()));
        can(model < 8);
        String text = line;
        line = "";
        int fault = fault(text);
        if (fault != NONE) {
            return -1 - fault;
        }
        Tree tree = Tree.of(text, 0);
        if (model == models.size()) {
            models.add(tree);
        } else {
            models.set(model, tree);
        }
        HashSet<String> unlike = new HashSet<>();
        tree.print(unlike);
        return unlike.size();
    }

    /** Walks over the signs with a stack of what stands open: '(' and the sign '-'. */
    static int fault(String text) {
        StringBuilder open = new StringBuilder();
        boolean wanted = true;
        boolean fresh = false;
        int digits = 0;
        for (int at = 0; at < text.length(); at++) {
            char sign = text.charAt(at);
            boolean digit = sign >= '0' && sign <= '9';
            if (wanted) {
                if (sign == '-' || sign == '(') {
                    if (open.length() == 7) {
                        return at;
                    }
                    open.append(sign);
                } else if (digit || sign >= 'a' && sign <= 'f') {
                    wanted = false;
                    fresh = true;
                    digits = digit ? 1 : 0;
                } else {
                    return at;
                }
                continue;
            }
            if (digit && digits > 0 && digits < 4) {
                digits++;
                continue;
            }
            digits = 0;
            if (sign == '^') {
                boolean minus = open.length() > 0 && open.charAt(open.length() - 1) == '-';
                if (!fresh && !minus) {
                    return at;
                }
                if (!fresh) {
                    open.setLength(open.length() - 1);
                }
                fresh = false;
                at++;
                if (at == text.length() || "01234".indexOf(text.charAt(at)) < 0) {
                    return at;
                }
                continue;
            }
            while (open.length() > 0 && open.charAt(open.length() - 1) == '-') {
                open.setLength(open.length() - 1);
            }
            if (sign == ')') {
                if (open.length() == 0) {
                    return at;
                }
                open.setLength(open.length() - 1);
                fresh = true;
            } else if (sign == '+' || sign == '-' || sign == '*') {
                wanted = true;
            } else {
                return at;
            }
        }
        return wanted || open.indexOf("(") >= 0 ? text.length() : NONE;
    }

    private Tree tree(int model) {
        at(within(model, 0, models.size() - 1));
        return models.get(model);
    }

    int disagrees(int model) {
        return tree(model).disagrees(units);
    }

    int unitOf(int model, boolean second) {
        return tree(model).unit(units)[second ? 1 : 0];
    }

    long value(int model) {
        return tree(model).reckon(estimates).longValue();
    }

    long sensitivity(int model, int input) {
        Tree tree = tree(model);
        at(within(input, 0, 5));
        return slope(tree, input).longValue();
    }

    private BigInteger slope(Tree tree, int input) {
        return tree.differentiated(input).reckon(estimates);
    }

    private BigInteger contribution(Tree tree, int input) {
        return Tree.round(slope(tree, input).pow(2).multiply(big(variance(input))));
    }

    private static BigInteger big(long number) {
        return BigInteger.valueOf(number);
    }

    private BigInteger varianceOf(Tree tree) {
        BigInteger sum = BigInteger.ZERO;
        for (int input = 0; input < 6; input++) {
            sum = sum.add(contribution(tree, input));
            for (int other = input + 1; other < 6; other++) {
                int covariance = covariances.getOrDefault(pair(input, other), 0);
                if (covariance != 0) {
                    sum = sum.add(slope(tree, input).multiply(slope(tree, other))
                            .multiply(big(2 * covariance)));
                }
            }
        }
        return Tree.round(sum);
    }

    private BigInteger share(Tree tree, int input) {
        BigInteger variance = varianceOf(tree);
        BigInteger hundred = Tree.round(contribution(tree, input).multiply(big(100)));
        return variance.signum() == 0 ? variance : Tree.round(hundred.divide(variance));
    }

    /** The doubt, or null. */
    private BigInteger doubt(Tree tree) {
        BigInteger variance = varianceOf(tree);
        return variance.signum() < 0 ? null : variance.sqrt();
    }

    /** The degrees, or null. */
    private BigInteger degrees(Tree tree) {
        BigInteger sum = BigInteger.ZERO;
        for (int input = 0; input < 6; input++) {
            int degrees = input(input, 3);
            if (degrees > 0) {
                sum = Tree.round(sum.add(
                        Tree.round(share(tree, input).pow(2)).divide(big(degrees))));
            }
        }
        return sum.signum() == 0 ? null : big(10000).divide(sum);
    }

    /** The factor, or null. */
    private Integer factor(Tree tree) {
        BigInteger degrees = degrees(tree);
        int most = degrees == null ? 10000 : degrees.min(big(10000)).max(big(-1)).intValue();
        Map.Entry<Integer, Integer> entry = table.floorEntry(most);
        return entry == null ? null : entry.getValue();
    }

    /** The stated doubt, or null. */
    private BigInteger stated(Tree tree) {
        BigInteger doubt = doubt(tree);
        Integer factor = factor(tree);
        return doubt == null || factor == null
                ? null : doubt.multiply(big(factor)).divide(big(100));
    }

    private static long orNone(Number number) {
        return number == null ? NONE : number.longValue();
    }

    long budget(int model, int what) {
        Tree tree = tree(model);
        good(within(what, 0, 4));
        switch (what) {
            case 0: return varianceOf(tree).longValue();
            case 1: return orNone(doubt(tree));
            case 2: return orNone(degrees(tree));
            case 3: return orNone(factor(tree));
            default: return orNone(stated(tree));
        }
    }

    long contribution(int model, int input, boolean share) {
        Tree tree = tree(model);
        at(within(input, 0, 5));
        return (share ? share(tree, input) : contribution(tree, input)).longValue();
    }

    int ranked(int model, int place) {
        Tree tree = tree(model);
        at(place >= 0);
        List<Integer> inputs = new ArrayList<>(List.of(0, 1, 2, 3, 4, 5));
        inputs.sort((one, other) -> contribution(tree, other).compareTo(contribution(tree, one)));
        return place > 5 ? NONE : inputs.get(place);
    }

    int table(int degrees, int factor) {
        good(within(degrees, 1, 9999) && within(factor, -1, 999));
        if (factor == NONE) {
            table.remove(degrees);
        } else {
            can(table.containsKey(degrees) || table.size() < 12);
            table.put(degrees, factor);
        }
        return table.size();
    }

    int seed(int newX) {
        good(within(newX, 0, 65536));
        int before = (int) x;
        x = newX;
        return before;
    }

    private int wanted(int bound) {
        x = (75 * x + 74) % 65537;
        return (int) (x % bound);
    }

    int draw(int model, int draws) {
        Tree tree = tree(model);
        good(within(draws, 1, 100));
        BigInteger stated = stated(tree);
        BigInteger middle = tree.reckon(estimates);
        int hits = 0;
        for (int k = 0; k < draws; k++) {
            int[] drawn = estimates.clone();
            for (int input = 0; input < 6; input++) {
                int w = widths[input];
                switch (sorts[input]) {
                    case 1: drawn[input] += wanted(2 * w + 1) - w; break;
                    case 2:
                        drawn[input] += wanted(w + 1) - w;
                        drawn[input] += wanted(w + 1);
                        break;
                    case 3: drawn[input] += wanted(2) == 0 ? -w : w; break;
                    case 4:
                        List<Integer> own = readings.get(input);
                        drawn[input] = own.get(wanted(own.size()));
                        break;
                    default: break;
                }
            }
            BigInteger off = Tree.round(tree.reckon(drawn).subtract(middle));
            if (stated != null && off.abs().compareTo(stated) <= 0) {
                hits++;
            }
        }
        return hits;
    }
}
