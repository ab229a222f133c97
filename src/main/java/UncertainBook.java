import java.util.Arrays;

/** A book of doubts in measurement; the project's document tells what each call promises. */
public final class UncertainBook {
    public static final int NONE = -1;
    public static final int EVEN = 1, PEAK = 2, ENDS = 3, READ = 4;

    private static final int INPUTS = 6;
    private static final int MOST_READINGS = 8;
    private static final int MOST_MODELS = 8;
    private static final int MOST_SIGNS = 60;
    private static final int MOST_FACTORS = 12;

    private final Inputs inputs;
    private final Line line;
    /** Null where there is no model yet. */
    private final Formula[] formulas;
    private int models;
    /** What the line is read into, so that a FAULT leaves the model as it was. */
    private Formula spare;
    private final Budget figures;
    private final Coverage coverage;
    private final Chance chance;
    private final int[] drawn;

    public UncertainBook() {
        inputs = new Inputs();
        line = new Line();
        formulas = new Formula[MOST_MODELS];
        models = 0;
        spare = new Formula();
        figures = new Budget();
        coverage = new Coverage();
        chance = new Chance();
        drawn = new int[INPUTS];
    }

    // ---- inputs

    public int shape(int input, int estimate, int sort, int width)
            throws IndexOutOfBoundsException, IllegalArgumentException {
        checkInput(input);
        checkRange(estimate, -999, 999);
        checkRange(sort, 0, ENDS);
        checkRange(width, 0, sort == 0 ? 0 : 99);
        return inputs.tellShape(input, estimate, sort, width);
    }

    public int read(int input, int value)
            throws IndexOutOfBoundsException, IllegalArgumentException, IllegalStateException {
        checkInput(input);
        checkRange(value, -999, 999);
        if (inputs.counts[input] >= MOST_READINGS) {
            throw new IllegalStateException("the input has all its readings");
        }
        return inputs.addReading(input, value);
    }

    public int unit(int input, int first, int second)
            throws IndexOutOfBoundsException, IllegalArgumentException {
        checkInput(input);
        checkRange(first, -3, 3);
        checkRange(second, -3, 3);
        inputs.firsts[input] = first;
        inputs.seconds[input] = second;
        return countDisagreeing();
    }

    public int together(int input, int other, int value)
            throws IndexOutOfBoundsException, IllegalArgumentException {
        checkInput(input);
        checkInput(other);
        checkRange(value, -9999, 9999);
        if (input == other) {
            throw new IllegalArgumentException("a covariance is of two inputs");
        }
        return inputs.tellCovariance(input, other, value);
    }

    public int input(int input, int what)
            throws IndexOutOfBoundsException, IllegalArgumentException {
        checkInput(input);
        checkRange(what, 0, 4);
        switch (what) {
            case 0: return inputs.estimates[input];
            case 1: return inputs.variances[input];
            case 2: return inputs.sorts[input];
            case 3: return inputs.degreesOf(input);
            default: return inputs.widthOrCount(input);
        }
    }

    // ---- models

    public int type(long signs) throws IllegalArgumentException, IllegalStateException {
        int count = Line.countSigns(signs);
        if (count == NONE) {
            throw new IllegalArgumentException("a sign is out of range");
        }
        if (line.length + count > MOST_SIGNS) {
            throw new IllegalStateException("the line would be too long");
        }
        line.append(signs, count);
        return line.length;
    }

    public int model(int model) throws IndexOutOfBoundsException, IllegalStateException {
        if (model < 0 || model > models) {
            throw new IndexOutOfBoundsException("no such model");
        }
        if (model >= MOST_MODELS) {
            throw new IllegalStateException("there are all the models");
        }
        int fault = line.readInto(spare);
        if (fault != NONE) {
            return -1 - fault;
        }
        Formula told = spare;
        Formula before = formulas[model];
        spare = before == null ? new Formula() : before;
        formulas[model] = told;
        if (model == models) {
            models++;
        }
        return told.size;
    }

    public int disagrees(int model) throws IndexOutOfBoundsException {
        return formulaOf(model).findDisagreement(inputs.firsts, inputs.seconds);
    }

    public int unitOf(int model, boolean second) throws IndexOutOfBoundsException {
        return formulaOf(model).exponentBy(second ? inputs.seconds : inputs.firsts);
    }

    public long value(int model) throws IndexOutOfBoundsException {
        return formulaOf(model).reckonBy(inputs.estimates);
    }

    public long sensitivity(int model, int input) throws IndexOutOfBoundsException {
        Formula formula = formulaOf(model);
        checkInput(input);
        return formula.slopeForward(inputs.estimates, input);
    }

    public long sensitivityAnew(int model, int input) throws IndexOutOfBoundsException {
        Formula formula = formulaOf(model);
        checkInput(input);
        formula.slopesBackward(inputs.estimates, figures.slopes);
        return figures.slopes[input];
    }

    // ---- budgets

    public long budget(int model, int what)
            throws IndexOutOfBoundsException, IllegalArgumentException {
        Formula formula = formulaOf(model);
        checkRange(what, 0, 4);
        figures.reckon(formula, inputs);
        switch (what) {
            case 0: return figures.variance;
            case 1: return figures.doubt();
            case 2: return figures.degrees();
            case 3: return figures.factor(coverage);
            default: return figures.statedDoubt(coverage);
        }
    }

    public long contribution(int model, int input, boolean share)
            throws IndexOutOfBoundsException {
        Formula formula = formulaOf(model);
        checkInput(input);
        figures.reckon(formula, inputs);
        return share ? figures.shareOf(input) : figures.contributions[input];
    }

    public int ranked(int model, int place) throws IndexOutOfBoundsException {
        Formula formula = formulaOf(model);
        if (place < 0) {
            throw new IndexOutOfBoundsException("no such place");
        }
        figures.reckon(formula, inputs);
        return figures.inputAtRank(place);
    }

    public int table(int degrees, int factor)
            throws IllegalArgumentException, IllegalStateException {
        checkRange(degrees, 1, Coverage.MOST_DEGREES);
        checkRange(factor, NONE, 999);
        if (factor == NONE) {
            coverage.remove(degrees);
        } else if (coverage.hasRoomFor(degrees)) {
            coverage.put(degrees, factor);
        } else {
            throw new IllegalStateException("the table is full");
        }
        return coverage.count;
    }

    // ---- draws

    public int seed(int x) throws IllegalArgumentException {
        checkRange(x, 0, Chance.MODULUS - 1);
        int before = chance.x;
        chance.x = x;
        return before;
    }

    public int draw(int model, int draws)
            throws IndexOutOfBoundsException, IllegalArgumentException {
        Formula formula = formulaOf(model);
        checkRange(draws, 1, 100);
        figures.reckon(formula, inputs);
        long stated = figures.statedDoubt(coverage);
        long middle = formula.reckonBy(inputs.estimates);
        int hits = 0;
        for (int made = 0; made < draws; made++) {
            inputs.drawInto(drawn, chance);
            long off = formula.reckonBy(drawn) - middle;
            if (stated != NONE && off >= -stated && off <= stated) {
                hits++;
            }
        }
        return hits;
    }

    private static void checkInput(int input) {
        if (input < 0 || input >= INPUTS) {
            throw new IndexOutOfBoundsException("no such input");
        }
    }

    private static void checkRange(int number, int least, int most) {
        if (number < least || number > most) {
            throw new IllegalArgumentException("out of range");
        }
    }

    private Formula formulaOf(int model) {
        Formula formula = model < 0 || model >= MOST_MODELS ? null : formulas[model];
        if (formula == null) {
            throw new IndexOutOfBoundsException("no such model");
        }
        return formula;
    }

    private int countDisagreeing() {
        int count = 0;
        for (Formula formula : formulas) {
            if (formula != null
                    && formula.findDisagreement(inputs.firsts, inputs.seconds) != NONE) {
                count++;
            }
        }
        return count;
    }

    /** All that is told of the six inputs. */
    private static final class Inputs {
        final int[] estimates = new int[INPUTS];
        final int[] variances = new int[INPUTS];
        final int[] sorts = new int[INPUTS];
        final int[] widths = new int[INPUTS];
        /** How many readings; 0 for every sort but READ. */
        final int[] counts = new int[INPUTS];
        final int[][] readings = new int[INPUTS][MOST_READINGS];
        final int[] firsts = new int[INPUTS];
        final int[] seconds = new int[INPUTS];
        final int[][] covariances = new int[INPUTS][INPUTS];

        int tellShape(int input, int estimate, int sort, int width) {
            estimates[input] = estimate;
            sorts[input] = sort;
            widths[input] = width;
            counts[input] = 0;
            variances[input] = shapeVariance(sort, width * width);
            return variances[input];
        }

        private static int shapeVariance(int sort, int square) {
            switch (sort) {
                case EVEN: return square / 3;
                case PEAK: return square / 6;
                case ENDS: return square / 2;
                default: return 0;
            }
        }

        int addReading(int input, int reading) {
            int count = counts[input];
            if (count < MOST_READINGS) {
                readings[input][count] = reading;
                counts[input] = count + 1;
            }
            sorts[input] = READ;
            reckonReadings(input);
            return variances[input];
        }

        private void reckonReadings(int input) {
            int n = counts[input];
            int sum = 0;
            int squares = 0;
            for (int k = 0; k < n; k++) {
                int reading = readings[input][k];
                sum += reading;
                squares += reading * reading;
            }
            estimates[input] = n > 0 ? Math.floorDiv(sum, n) : 0;
            variances[input] = n > 1 ? (n * squares - sum * sum) / (n * n * (n - 1)) : 0;
        }

        int degreesOf(int input) {
            return counts[input] > 1 ? counts[input] - 1 : 0;
        }

        int widthOrCount(int input) {
            return sorts[input] == READ ? counts[input] : widths[input];
        }

        int tellCovariance(int input, int other, int covariance) {
            int before = covariances[input][other];
            covariances[input][other] = covariance;
            covariances[other][input] = covariance;
            return before;
        }

        void drawInto(int[] drawn, Chance chance) {
            for (int input = 0; input < INPUTS; input++) {
                drawn[input] = drawOf(input, chance);
            }
        }

        private int drawOf(int input, Chance chance) {
            int width = widths[input];
            int least = estimates[input] - width;
            switch (sorts[input]) {
                case EVEN:
                    return least + chance.modulo(2 * width + 1);
                case PEAK:
                    return least + chance.modulo(width + 1) + chance.modulo(width + 1);
                case ENDS:
                    return least + 2 * width * chance.modulo(2);
                case READ:
                    return readings[input][chance.modulo(counts[input])];
                default:
                    return estimates[input];
            }
        }
    }

    /** The signs typed so far, and how they are read as a formula. */
    private static final class Line {
        private static final int MOST_NESTED = 7;
        private static final int MOST_DIGITS = 4;
        private static final char NO_SIGN = (char) 0;

        final char[] signs = new char[MOST_SIGNS];
        int length = 0;
        /** Where the reading stands; it never goes past a sign that cannot stand there. */
        private int at = 0;

        /** How many signs these are; NONE if they cannot be typed. */
        static int countSigns(long packed) {
            int count = 0;
            while (count < 8 && signIn(packed, count) != 0) {
                int sign = signIn(packed, count);
                if (sign < 32 || sign > 126) {
                    return NONE;
                }
                count++;
            }
            boolean nothingBehind = count == 8 || packed >>> (8 * count) == 0;
            return nothingBehind ? count : NONE;
        }

        private static int signIn(long packed, int number) {
            return (int) (packed >>> (8 * number)) & 255;
        }

        void append(long packed, int count) {
            for (int number = 0; number < count && length < MOST_SIGNS; number++) {
                signs[length] = (char) signIn(packed, number);
                length++;
            }
        }

        /** Empties the line into a formula; NONE, or the place of the FAULT. */
        int readInto(Formula target) {
            target.clear();
            at = 0;
            int root = readSum(target, 0);
            boolean sound = root != NONE && at == length;
            target.root = sound ? root : 0;
            length = 0;
            return sound ? NONE : at;
        }

        private char next() {
            return at < length ? signs[at] : NO_SIGN;
        }

        private int readSum(Formula target, int depth) {
            int sum = readTerm(target, depth);
            while (sum != NONE && at < length && (next() == '+' || next() == '-')) {
                int kind = next() == '+' ? Formula.SUM : Formula.DIFFERENCE;
                int place = at;
                at++;
                int term = readTerm(target, depth);
                sum = term == NONE ? NONE : target.add(kind, sum, term, place);
            }
            return sum;
        }

        private int readTerm(Formula target, int depth) {
            int product = readPart(target, depth);
            while (product != NONE && at < length && next() == '*') {
                int place = at;
                at++;
                int part = readPart(target, depth);
                product = part == NONE
                        ? NONE : target.add(Formula.PRODUCT, product, part, place);
            }
            return product;
        }

        private int readPart(Formula target, int depth) {
            int base = readBase(target, depth);
            if (base == NONE || next() != '^') {
                return base;
            }
            int place = at;
            at++;
            char digit = next();
            if (digit < '0' || digit > '4') {
                return NONE;
            }
            at++;
            return target.add(Formula.POWER, base, digit - '0', place);
        }

        private int readBase(Formula target, int depth) {
            char sign = next();
            int place = at;
            if (isDigit(sign)) {
                return target.add(Formula.NUMBER, readNumber(), 0, place);
            }
            if (sign >= 'a' && sign < 'a' + INPUTS) {
                at++;
                return target.add(Formula.NAME, sign - 'a', 0, place);
            }
            if (depth >= MOST_NESTED || sign != '-' && sign != '(') {
                return NONE;
            }
            at++;
            if (sign == '(') {
                return readClosed(target, depth + 1);
            }
            int part = readPart(target, depth + 1);
            return part == NONE ? NONE : target.add(Formula.NEGATIVE, part, 0, place);
        }

        private int readClosed(Formula target, int depth) {
            int sum = readSum(target, depth);
            if (sum == NONE || next() != ')') {
                return NONE;
            }
            at++;
            return sum;
        }

        private int readNumber() {
            int number = 0;
            for (int digits = 0; digits < MOST_DIGITS && isDigit(next()); digits++) {
                number = 10 * number + (next() - '0');
                at++;
            }
            return number;
        }

        private static boolean isDigit(char sign) {
            return sign >= '0' && sign <= '9';
        }
    }

    /**
     * A model's formula as rows of parts, like parts kept once. A part stands behind those
     * that it is made of, so that loops forward and backward do for walks of the tree.
     */
    private static final class Formula {
        static final int NUMBER = 0, NAME = 1, NEGATIVE = 2, SUM = 3, DIFFERENCE = 4,
                PRODUCT = 5, POWER = 6;

        private final int[] kinds = new int[MOST_SIGNS];
        /** A NUMBER's number, a NAME's input, otherwise the part on the left. */
        private final int[] lefts = new int[MOST_SIGNS];
        /** A POWER's exponent, otherwise the part on the right. */
        private final int[] rights = new int[MOST_SIGNS];
        /** Where the sign of each stands; of like ones that of the first. */
        private final int[] places = new int[MOST_SIGNS];
        private final long[] values = new long[MOST_SIGNS];
        private final long[] slopes = new long[MOST_SIGNS];
        private final int[] exponents = new int[MOST_SIGNS];
        int size = 0;
        int root = 0;

        void clear() {
            size = 0;
            root = 0;
        }

        /** The part's number in the rows; NONE without room, though each part has a sign. */
        int add(int kind, int left, int right, int place) {
            int part = find(kind, left, right);
            if (part >= MOST_SIGNS) {
                return NONE;
            }
            if (part == size) {
                kinds[part] = kind;
                lefts[part] = left;
                rights[part] = right;
                places[part] = place;
                size++;
            }
            return part;
        }

        private int find(int kind, int left, int right) {
            int part = 0;
            while (part < size && !(kinds[part] == kind
                    && lefts[part] == left && rights[part] == right)) {
                part++;
            }
            return part;
        }

        long reckonBy(int[] estimates) {
            for (int part = 0; part < size; part++) {
                values[part] = reckonPart(part, estimates);
            }
            return values[root];
        }

        private long reckonPart(int part, int[] estimates) {
            int left = lefts[part];
            int right = rights[part];
            switch (kinds[part]) {
                case NUMBER: return left;
                case NAME: return estimates[left];
                case NEGATIVE: return -values[left];
                case SUM: return values[left] + values[right];
                case DIFFERENCE: return values[left] - values[right];
                case PRODUCT: return values[left] * values[right];
                default: return power(values[left], right);
            }
        }

        private static long power(long base, int exponent) {
            long power = 1;
            for (int k = 0; k < exponent; k++) {
                power *= base;
            }
            return power;
        }

        /** What a POWER grows by for each one that its base grows by. */
        private long powerSlope(int part) {
            int exponent = rights[part];
            return exponent == 0 ? 0 : exponent * power(values[lefts[part]], exponent - 1);
        }

        long slopeForward(int[] estimates, int input) {
            reckonBy(estimates);
            for (int part = 0; part < size; part++) {
                slopes[part] = slopeOfPart(part, input);
            }
            return slopes[root];
        }

        private long slopeOfPart(int part, int input) {
            int left = lefts[part];
            int right = rights[part];
            switch (kinds[part]) {
                case NUMBER: return 0;
                case NAME: return left == input ? 1 : 0;
                case NEGATIVE: return -slopes[left];
                case SUM: return slopes[left] + slopes[right];
                case DIFFERENCE: return slopes[left] - slopes[right];
                case PRODUCT: return values[left] * slopes[right] + slopes[left] * values[right];
                default: return powerSlope(part) * slopes[left];
            }
        }

        /** Finds the slopes to all inputs in one walk from the whole down to its parts. */
        void slopesBackward(int[] estimates, long[] found) {
            reckonBy(estimates);
            Arrays.fill(found, 0);
            Arrays.fill(slopes, 0);
            slopes[root] = 1;
            for (int part = size - 1; part >= 0; part--) {
                if (kinds[part] == NAME) {
                    found[lefts[part]] += slopes[part];
                } else if (kinds[part] != NUMBER) {
                    handDown(part);
                }
            }
        }

        private void handDown(int part) {
            int left = lefts[part];
            int right = rights[part];
            long slope = slopes[part];
            switch (kinds[part]) {
                case NEGATIVE:
                    slopes[left] -= slope;
                    break;
                case SUM:
                    slopes[left] += slope;
                    slopes[right] += slope;
                    break;
                case DIFFERENCE:
                    slopes[left] += slope;
                    slopes[right] -= slope;
                    break;
                case PRODUCT:
                    slopes[left] += slope * values[right];
                    slopes[right] += slope * values[left];
                    break;
                default:
                    slopes[left] += slope * powerSlope(part);
                    break;
            }
        }

        /** One exponent of the unit of the whole, by that one of all inputs. */
        int exponentBy(int[] ofInputs) {
            for (int part = 0; part < size; part++) {
                exponents[part] = exponentOfPart(part, ofInputs);
            }
            return exponents[root];
        }

        private int exponentOfPart(int part, int[] ofInputs) {
            int left = lefts[part];
            int right = rights[part];
            switch (kinds[part]) {
                case NUMBER: return 0;
                case NAME: return ofInputs[left];
                case PRODUCT: return exponents[left] + exponents[right];
                case POWER: return exponents[left] * right;
                default: return exponents[left];
            }
        }

        /** The place of the first sign whose sides have not one unit, or NONE. */
        int findDisagreement(int[] firsts, int[] seconds) {
            exponentBy(firsts);
            int byFirst = findUnevenSides();
            exponentBy(seconds);
            int bySecond = findUnevenSides();
            if (byFirst == NONE || bySecond == NONE) {
                return Math.max(byFirst, bySecond);
            }
            return Math.min(byFirst, bySecond);
        }

        private int findUnevenSides() {
            int first = NONE;
            for (int part = 0; part < size; part++) {
                boolean uneven = (kinds[part] == SUM || kinds[part] == DIFFERENCE)
                        && exponents[lefts[part]] != exponents[rights[part]];
                if (uneven && (first == NONE || places[part] < first)) {
                    first = places[part];
                }
            }
            return first;
        }
    }

    /** The budget of the model that was reckoned last. */
    private static final class Budget {
        /** The root of the greatest long: squares above it would go round. */
        private static final long GREATEST_ROOT = 3037000499L;

        final long[] slopes = new long[INPUTS];
        final long[] contributions = new long[INPUTS];
        long variance = 0;
        /** The sum that the degrees are found by; 0 means NONE. */
        private long degreesSum = 0;

        void reckon(Formula formula, Inputs inputs) {
            formula.slopesBackward(inputs.estimates, slopes);
            variance = 0;
            for (int input = 0; input < INPUTS; input++) {
                contributions[input] = slopes[input] * slopes[input] * inputs.variances[input];
                variance += contributions[input];
                for (int other = 0; other < input; other++) {
                    variance += 2 * slopes[input] * slopes[other]
                            * inputs.covariances[input][other];
                }
            }
            reckonDegreesSum(inputs);
        }

        private void reckonDegreesSum(Inputs inputs) {
            degreesSum = 0;
            for (int input = 0; input < INPUTS; input++) {
                int degrees = inputs.degreesOf(input);
                if (degrees > 0) {
                    degreesSum += shareOf(input) * shareOf(input) / degrees;
                }
            }
        }

        long shareOf(int input) {
            return variance == 0 ? 0 : 100 * contributions[input] / variance;
        }

        int inputAtRank(int place) {
            for (int input = 0; input < INPUTS; input++) {
                if (rankOf(input) == place) {
                    return input;
                }
            }
            return NONE;
        }

        private int rankOf(int input) {
            int before = 0;
            for (int other = 0; other < INPUTS; other++) {
                boolean even = contributions[other] == contributions[input];
                if (contributions[other] > contributions[input] || even && other < input) {
                    before++;
                }
            }
            return before;
        }

        long doubt() {
            if (variance < 0) {
                return NONE;
            }
            long root = 0;
            for (int bit = 31; bit >= 0; bit--) {
                long greater = root + (1L << bit);
                if (greater <= GREATEST_ROOT && greater * greater <= variance) {
                    root = greater;
                }
            }
            return root;
        }

        long degrees() {
            return degreesSum == 0 ? NONE : 10000 / degreesSum;
        }

        int factor(Coverage coverage) {
            // By the sum, not by the degrees: these can be -1 without being NONE.
            return coverage.factorUpTo(degreesSum == 0 ? Coverage.MOST_DEGREES : degrees());
        }

        long statedDoubt(Coverage coverage) {
            long doubt = doubt();
            int factor = factor(coverage);
            return doubt == NONE || factor == NONE ? NONE : doubt * factor / 100;
        }
    }

    /** The table of coverage. */
    private static final class Coverage {
        static final int MOST_DEGREES = 9999;

        private final int[] degrees = new int[MOST_FACTORS];
        private final int[] factors = new int[MOST_FACTORS];
        int count;

        Coverage() {
            degrees[0] = 1;
            factors[0] = 200;
            count = 1;
        }

        private int find(int from) {
            int row = 0;
            while (row < count && degrees[row] != from) {
                row++;
            }
            return row;
        }

        boolean hasRoomFor(int from) {
            return find(from) < MOST_FACTORS;
        }

        void put(int from, int factor) {
            int row = find(from);
            if (row < MOST_FACTORS) {
                degrees[row] = from;
                factors[row] = factor;
                count = Math.max(count, row + 1);
            }
        }

        void remove(int from) {
            int row = find(from);
            if (row < count) {
                count--;
                degrees[row] = degrees[count];
                factors[row] = factors[count];
            }
        }

        /** The factor of the greatest degrees that are at most these, or NONE. */
        int factorUpTo(long most) {
            int greatest = 0;
            int factor = NONE;
            for (int row = 0; row < count; row++) {
                if (degrees[row] <= most && degrees[row] > greatest) {
                    greatest = degrees[row];
                    factor = factors[row];
                }
            }
            return factor;
        }
    }

    /** The chance that draws are made by. */
    private static final class Chance {
        static final int MODULUS = 65537;

        int x = 1;

        /** The next x modulo a bound above 0. */
        int modulo(int bound) {
            x = (75 * x + 74) % MODULUS;
            return bound > 0 ? x % bound : 0;
        }
    }
}
