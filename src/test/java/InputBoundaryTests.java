/**
 * Promises 1 to 6 at their edges: a test for each sentence of the document that names one.
 * What stands in quotes above a test is that sentence.
 */
final class InputBoundaryTests {
    private static final int[] NO_INPUTS = {-1, 6, Integer.MIN_VALUE, Integer.MAX_VALUE};

    private InputBoundaryTests() {
    }

    public static void main(String[] args) {
        aNewObjectHasNoModels();
        aNewObjectHasItsInputsAsAtFirst();
        inputsAreFromZeroToFive();
        estimatesOfAShape();
        sortsOfAShape();
        widthsOfAShape();
        widthOfTheSortZero();
        variancesAreRoundedDown();
        readingsAreGoneByAShape();
        firstExceptionOfShape();
        valuesOfReadings();
        atMostEightReadings();
        firstExceptionOfRead();
        aReadingOfAnInputThatWasNotRead();
        estimatesByReadingsAreRoundedDown();
        varianceOfOneReading();
        variancesByReadingsAreRoundedDown();
        variancesByReadingsNearTheNext();
        greatestVariancesByReadings();
        degreesOfReadings();
        exponentsOfUnits();
        howManyModelsDisagree();
        unitsStay();
        firstExceptionOfUnit();
        valuesOfCovariances();
        covariancesAtFirst();
        covariancesOfEachTwo();
        covariancesOfTheSame();
        firstExceptionOfTogether();
        numbersOfAnInput();
        firstExceptionOfInput();
        Check.end();
    }

    /** A book with each input as a model, so that its unit shows. */
    private static UncertainBook bookOfInputs() {
        return Check.book("a", "b", "c", "d", "e", "f");
    }

    /** "A new object: .. no models." */
    private static void aNewObjectHasNoModels() {
        UncertainBook book = new UncertainBook();
        Check.place("disagrees(0)", book, () -> book.disagrees(0));
        Check.place("unitOf(0)", book, () -> book.unitOf(0, false));
        Check.place("value(0)", book, () -> book.value(0));
        Check.place("sensitivity(0, 0)", book, () -> book.sensitivity(0, 0));
        Check.place("sensitivityAnew(0, 0)", book, () -> book.sensitivityAnew(0, 0));
        Check.place("budget(0, 0)", book, () -> book.budget(0, 0));
        Check.place("contribution(0, 0)", book, () -> book.contribution(0, 0, false));
        Check.place("ranked(0, 0)", book, () -> book.ranked(0, 0));
        Check.place("draw(0, 1)", book, () -> book.draw(0, 1));
        Check.place("model(1)", book, () -> book.model(1));
        Check.due("models that disagree", 0, book.unit(0, 1, 1));
        Check.due("an empty line is a FAULT", -1, book.model(0));
        Check.place("value(0) behind it", book, () -> book.value(0));
    }

    /** "A new object: Inputs as at first" and "x, 1 at first", "200 from 1 on, at first". */
    private static void aNewObjectHasItsInputsAsAtFirst() {
        UncertainBook book = bookOfInputs();
        for (int input = 0; input < 6; input++) {
            Check.inputIs(book, input, 0, 0, 0, 0, 0);
            Check.due("its first exponent", 0, book.unitOf(input, false));
            Check.due("its second exponent", 0, book.unitOf(input, true));
            Check.budgetIs(book, input, 0, 0, -1, 200, 0);
        }
        Check.due("x", 1, book.seed(1));
        Check.due("factors without the one from 1 on", 0, book.table(1, -1));
    }

    /** "There are the inputs 0 to 5", "if it is below 0". */
    private static void inputsAreFromZeroToFive() {
        UncertainBook book = Check.book("a*f");
        book.shape(5, 3, 1, 4);
        for (int input : NO_INPUTS) {
            Check.place("shape(" + input + ")", book, () -> book.shape(input, 1, 1, 1));
            Check.place("read(" + input + ")", book, () -> book.read(input, 1));
            Check.place("unit(" + input + ")", book, () -> book.unit(input, 1, 1));
            Check.place("together(" + input + ", 0)", book, () -> book.together(input, 0, 1));
            Check.place("together(0, " + input + ")", book, () -> book.together(0, input, 1));
            Check.place("input(" + input + ")", book, () -> book.input(input, 0));
        }
        for (int input = 0; input < 6; input += 5) {
            Check.due("shape(" + input + ")", 3, book.shape(input, 1, 1, 3));
            Check.due("read(" + input + ")", 0, book.read(input, 7));
            Check.due("unit(" + input + ")", 0, book.unit(input, 1, 1));
            Check.due("together(" + input + ")", 0, book.together(input, 5 - input, 0));
            Check.due("input(" + input + ")", 7, book.input(input, 0));
        }
    }

    /** "estimate: -999 to 999". */
    private static void estimatesOfAShape() {
        UncertainBook book = Check.book("a");
        for (int estimate : new int[] {-999, 999}) {
            for (int sort = 0; sort <= 3; sort++) {
                book.shape(0, estimate, sort, 0);
                Check.inputIs(book, 0, estimate, 0, sort, 0, 0);
                Check.due("the value", estimate, book.value(0));
            }
        }
        int[] wrong = {-1000, 1000, Integer.MIN_VALUE, Integer.MAX_VALUE};
        for (int estimate : wrong) {
            for (int sort = 0; sort <= 3; sort++) {
                int told = sort;
                Check.argument("an estimate " + estimate, book,
                        () -> book.shape(0, estimate, told, 0));
            }
        }
    }

    /** "sort: 0, or EVEN to ENDS", so that READ is none. */
    private static void sortsOfAShape() {
        UncertainBook book = Check.book("a");
        book.read(0, 7);
        for (int sort : new int[] {-1, 4, 5, Integer.MIN_VALUE, Integer.MAX_VALUE}) {
            Check.argument("a sort " + sort, book, () -> book.shape(0, 1, sort, 0));
            Check.argument("a sort " + sort + " by 6", book, () -> book.shape(0, 1, sort, 6));
        }
        for (int sort = 0; sort <= 3; sort++) {
            book.shape(0, 1, sort, 0);
            Check.inputIs(book, 0, 1, 0, sort, 0, 0);
        }
    }

    /** "width: 0 to 99". */
    private static void widthsOfAShape() {
        UncertainBook book = Check.book("a");
        int[] greatest = {3267, 1633, 4900};
        for (int sort = 1; sort <= 3; sort++) {
            int told = sort;
            Check.due("the least width", 0, book.shape(0, 5, sort, 0));
            Check.inputIs(book, 0, 5, 0, sort, 0, 0);
            Check.due("the greatest width", greatest[sort - 1], book.shape(0, 5, sort, 99));
            Check.inputIs(book, 0, 5, greatest[sort - 1], sort, 0, 99);
            for (int width : new int[] {-1, 100, Integer.MIN_VALUE, Integer.MAX_VALUE}) {
                Check.argument("a width " + width, book, () -> book.shape(0, 1, told, width));
            }
        }
    }

    /** "width: .. 0 for the sort 0". */
    private static void widthOfTheSortZero() {
        UncertainBook book = Check.book("a");
        book.shape(0, 5, 3, 9);
        for (int width : new int[] {-1, 1, 99, 100, Integer.MIN_VALUE, Integer.MAX_VALUE}) {
            Check.argument("a width " + width, book, () -> book.shape(0, 1, 0, width));
        }
        Check.due("the width 0", 0, book.shape(0, 1, 0, 0));
        Check.inputIs(book, 0, 1, 0, 0, 0, 0);
    }

    /** "w times w divided by 3 for EVEN, by 6 for PEAK, by 2 for ENDS, rounded down". */
    private static void variancesAreRoundedDown() {
        UncertainBook book = new UncertainBook();
        int[] divisors = {3, 6, 2};
        for (int sort = 1; sort <= 3; sort++) {
            for (int width = 0; width <= 99; width++) {
                int variance = book.shape(2, 0, sort, width);
                int left = width * width - divisors[sort - 1] * variance;
                Check.due("whether what is left of " + width + " is less than the divisor", 1,
                        left >= 0 && left < divisors[sort - 1] ? 1 : 0);
                Check.inputIs(book, 2, 0, variance, sort, 0, width);
            }
        }
    }

    /** "Tells an input by an estimate and a shape; its readings are gone." */
    private static void readingsAreGoneByAShape() {
        for (int sort = 0; sort <= 3; sort++) {
            UncertainBook book = Check.book("a");
            for (int round = 0; round < 3; round++) {
                for (int k = 0; k < 8; k++) {
                    book.read(0, 900 + k);
                }
                Check.state("a ninth reading", book, () -> book.read(0, 0));
                book.shape(0, 3, sort, 0);
                Check.inputIs(book, 0, 3, 0, sort, 0, 0);
                Check.due("a first reading", 0, book.read(0, -8));
                Check.inputIs(book, 0, -8, 0, 4, 0, 1);
                Check.due("a second reading", 4, book.read(0, -4));
                Check.inputIs(book, 0, -6, 4, 4, 1, 2);
                book.table(1, 100);
                Check.due("draws by the new ones alone", 100, book.draw(0, 100));
                book.shape(0, 0, sort, 0);
            }
        }
    }

    /** "If several exceptions apply, the one that is named first": shape. */
    private static void firstExceptionOfShape() {
        UncertainBook book = Check.book("a");
        for (int input : NO_INPUTS) {
            Check.place("an estimate beside " + input, book, () -> book.shape(input, 1000, 0, 0));
            Check.place("a sort beside " + input, book, () -> book.shape(input, 0, 4, 0));
            Check.place("a width beside " + input, book, () -> book.shape(input, 0, 0, 1));
            Check.place("all beside " + input, book, () -> book.shape(input, -1000, -1, 100));
        }
    }

    /** "by readings, .. each -999 to 999". */
    private static void valuesOfReadings() {
        UncertainBook book = Check.book("b");
        for (int value : new int[] {-1000, 1000, Integer.MIN_VALUE, Integer.MAX_VALUE}) {
            Check.argument("a first reading " + value, book, () -> book.read(1, value));
        }
        Check.due("the least one", 0, book.read(1, -999));
        Check.inputIs(book, 1, -999, 0, 4, 0, 1);
        Check.due("the greatest one", 998001, book.read(1, 999));
        Check.inputIs(book, 1, 0, 998001, 4, 1, 2);
        for (int value : new int[] {-1000, 1000, Integer.MIN_VALUE, Integer.MAX_VALUE}) {
            Check.argument("a third reading " + value, book, () -> book.read(1, value));
        }
    }

    /** "by readings, at most 8", "IllegalStateException if it has 8". */
    private static void atMostEightReadings() {
        UncertainBook book = Check.book("a", "f");
        for (int input = 0; input < 6; input += 5) {
            int told = input;
            for (int k = 0; k < 8; k++) {
                Check.due("reading " + (k + 1), 0, book.read(input, 6));
                Check.inputIs(book, input, 6, 0, 4, k, k + 1);
            }
            Check.state("a ninth of input " + input, book, () -> book.read(told, 999));
            Check.state("and once more", book, () -> book.read(told, -999));
            Check.inputIs(book, input, 6, 0, 4, 7, 8);
        }
        Check.due("draws by the eight alone", 100, book.draw(0, 100));
        Check.due("another input's first one", 0, book.read(3, 1));
    }

    /** "If several exceptions apply, the one that is named first": read. */
    private static void firstExceptionOfRead() {
        UncertainBook book = Check.book("a");
        Check.readings(book, 0, 1, 2, 3, 4, 5, 6, 7, 8);
        for (int value : new int[] {-1000, 1000, Integer.MIN_VALUE, Integer.MAX_VALUE}) {
            Check.argument("a ninth one " + value, book, () -> book.read(0, value));
            Check.place("no input and " + value, book, () -> book.read(6, value));
        }
    }

    /** "an input, which is READ then; if it was not, it is the first one". */
    private static void aReadingOfAnInputThatWasNotRead() {
        UncertainBook book = Check.book("a");
        for (int sort = 0; sort <= 3; sort++) {
            book.shape(0, 500, sort, sort == 0 ? 0 : 99);
            Check.due("one behind the sort " + sort, 0, book.read(0, -7));
            Check.inputIs(book, 0, -7, 0, 4, 0, 1);
            Check.due("the value", -7, book.value(0));
        }
        Check.due("a second one", 1, book.read(0, -5));
        Check.inputIs(book, 0, -6, 1, 4, 1, 2);
    }

    private static void estimateIs(int due, int... readings) {
        UncertainBook book = Check.book("d");
        Check.readings(book, 3, readings);
        Check.due("the estimate", due, book.input(3, 0));
        Check.due("the value", due, book.value(0));
    }

    /** "With n readings the estimate is their sum divided by n, rounded down". */
    private static void estimatesByReadingsAreRoundedDown() {
        estimateIs(0, 0, 1);
        estimateIs(-1, 0, -1);
        estimateIs(1, 0, 3);
        estimateIs(-2, 0, -3);
        estimateIs(-1, -1, -1);
        estimateIs(-1, -1, 0, 0);
        estimateIs(0, 1, 1, 0);
        estimateIs(-1, -2, 0, 0);
        estimateIs(-1, -1, -1, -1);
        estimateIs(-2, -2, -1, -1);
        estimateIs(0, 1, 1, 1, 1, 1, 1, 1, 0);
        estimateIs(-1, -1, 0, 0, 0, 0, 0, 0, 0);
        estimateIs(-999, -999, -999, -999, -999, -999, -999, -999, -999);
        estimateIs(-999, -999, -999, -999, -999, -999, -999, -999, -998);
        estimateIs(998, 999, 999, 999, 999, 999, 999, 999, 998);
        estimateIs(999, 999, 999, 999, 999, 999, 999, 999, 999);
    }

    /** "the variance 0 for one". */
    private static void varianceOfOneReading() {
        for (int value : new int[] {-999, -1, 0, 1, 999}) {
            UncertainBook book = Check.book("a");
            Check.due("the variance of one", 0, book.read(0, value));
            Check.budgetIs(book, 0, 0, 0, -1, 200, 0);
        }
    }

    private static void varianceIs(int due, int... readings) {
        UncertainBook book = new UncertainBook();
        int got = 0;
        for (int reading : readings) {
            got = book.read(4, reading);
        }
        Check.due("the variance by the last reading", due, got);
        Check.due("the variance", due, book.input(4, 1));
    }

    /** "otherwise n times the sum of their squares, .. divided by .., rounded down". */
    private static void variancesByReadingsAreRoundedDown() {
        varianceIs(0, 5, 5);
        varianceIs(0, 0, 1);
        varianceIs(1, -1, 1);
        varianceIs(2, 0, 3);
        varianceIs(2, -1, 2);
        varianceIs(4, 0, 4);
        varianceIs(0, 0, 0, 2);
        varianceIs(1, 0, 0, 3);
        varianceIs(2, 0, 0, 5);
        varianceIs(4, 0, 0, -6);
        varianceIs(0, 0, 0, 0, 0, 0, 0, 0, 7);
        varianceIs(1, 0, 0, 0, 0, 0, 0, 0, 8);
        varianceIs(3, 0, 0, 0, 0, 0, 0, 0, 15);
        varianceIs(4, 0, 0, 0, 0, 0, 0, 0, -16);
    }

    /** The same where almost one more would come out, or just a whole number does. */
    private static void variancesByReadingsNearTheNext() {
        varianceIs(8, 10, 20, 17);
        varianceIs(81, 14, -13, 14);
        varianceIs(8, 7, -1, 13, 3);
        varianceIs(58, -6, 16, -12, 18);
        varianceIs(14, 18, -4, 3, -2, 2);
        varianceIs(40, -14, -20, -17, 4, 12);
        varianceIs(16, 11, -2, 13, 15, 12, -10);
        varianceIs(34, -20, 7, -15, -15, 16, -9);
        varianceIs(16, -11, 16, -8, -6, -18, 1, 1);
        varianceIs(18, -12, -6, -14, -3, 1, 16, -17);
        varianceIs(13, -8, -7, -14, -11, 17, -15, -7, -16);
        varianceIs(14, 1, 5, 8, 14, 16, 20, -7, -9);
    }

    /** The same at its greatest, where nothing may go round. */
    private static void greatestVariancesByReadings() {
        varianceIs(998001, 999, -999);
        varianceIs(443556, 999, -999, 999);
        varianceIs(332667, 999, -999, 999, -999);
        varianceIs(142571, 999, -999, 999, -999, 999, -999, 999, -999);
        varianceIs(0, 999, 999, 999, 999, 999, 999, 999, 999);
        varianceIs(0, -999, -999, -999, -999, -999, -999, -999, -999);
        varianceIs(62375, 999, 999, 999, 999, 999, 999, 999, -999);
    }

    /** "it has n less 1 degrees (with one reading none), all others have none". */
    private static void degreesOfReadings() {
        UncertainBook book = new UncertainBook();
        for (int sort = 0; sort <= 3; sort++) {
            book.shape(1, 4, sort, 0);
            Check.due("the degrees of the sort " + sort, 0, book.input(1, 3));
        }
        for (int n = 1; n <= 8; n++) {
            book.read(1, 10 * n);
            Check.due("the degrees of " + n, n - 1, book.input(1, 3));
        }
        for (int sort = 0; sort <= 3; sort++) {
            book.shape(1, 4, sort, 0);
            Check.due("the degrees of the sort " + sort + " again", 0, book.input(1, 3));
        }
    }

    /** "a unit, two exponents -3 to 3". */
    private static void exponentsOfUnits() {
        UncertainBook book = bookOfInputs();
        for (int input = 0; input < 6; input++) {
            int told = input;
            book.unit(input, -3, 3);
            Check.due("the least first one", -3, book.unitOf(input, false));
            Check.due("the greatest second one", 3, book.unitOf(input, true));
            book.unit(input, 3, -3);
            Check.due("the greatest first one", 3, book.unitOf(input, false));
            Check.due("the least second one", -3, book.unitOf(input, true));
            for (int wrong : new int[] {-4, 4, Integer.MIN_VALUE, Integer.MAX_VALUE}) {
                Check.argument("a first one " + wrong, book, () -> book.unit(told, wrong, 0));
                Check.argument("a second one " + wrong, book, () -> book.unit(told, 0, wrong));
                Check.argument("both", book, () -> book.unit(told, wrong, wrong));
            }
        }
    }

    /** "Returns how many models DISAGREE then.": none, with no models, up to all eight. */
    private static void howManyModelsDisagree() {
        UncertainBook book = new UncertainBook();
        Check.due("with no models", 0, book.unit(0, 1, 0));
        for (int model = 0; model < 8; model++) {
            Check.model(book, model, "a+1");
            Check.due("with " + (model + 1), model + 1, book.unit(1, 0, 0));
        }
        Check.due("none by the unit of NUMBERs", 0, book.unit(0, 0, 0));
        Check.due("all by the second one", 8, book.unit(0, 0, -1));
        Check.model(book, 7, "a+a");
        Check.due("but the last, told anew", 7, book.unit(5, 3, 3));
    }

    /** "Tells the unit of an input.": a shape or a reading tells none. */
    private static void unitsStay() {
        UncertainBook book = Check.book("c");
        book.unit(2, 2, -1);
        for (int sort = 0; sort <= 3; sort++) {
            book.shape(2, 1, sort, 0);
            book.read(2, 1);
            Check.due("the first exponent", 2, book.unitOf(0, false));
            Check.due("the second exponent", -1, book.unitOf(0, true));
        }
    }

    /** "If several exceptions apply, the one that is named first": unit. */
    private static void firstExceptionOfUnit() {
        UncertainBook book = bookOfInputs();
        for (int input : NO_INPUTS) {
            Check.place("a first one beside " + input, book, () -> book.unit(input, 4, 0));
            Check.place("a second one beside " + input, book, () -> book.unit(input, 0, -4));
        }
    }

    /** "a covariance, -9999 to 9999". */
    private static void valuesOfCovariances() {
        UncertainBook book = Check.book("b+c");
        Check.due("the greatest", 0, book.together(1, 2, 9999));
        Check.budgetIs(book, 0, 19998);
        Check.due("the least", 9999, book.together(1, 2, -9999));
        Check.budgetIs(book, 0, -19998);
        for (int value : new int[] {-10000, 10000, Integer.MIN_VALUE, Integer.MAX_VALUE}) {
            Check.argument("a covariance " + value, book, () -> book.together(1, 2, value));
            Check.argument("the other way round", book, () -> book.together(2, 1, value));
        }
        Check.due("as it was", -9999, book.together(2, 1, 0));
    }

    /** "Two inputs can have a covariance, .. 0 at first." */
    private static void covariancesAtFirst() {
        for (int input = 0; input < 6; input++) {
            for (int other = 0; other < 6; other++) {
                if (other != input) {
                    UncertainBook book = new UncertainBook();
                    Check.due("at first", 0, book.together(input, other, 5));
                    Check.due("then", 5, book.together(input, other, 0));
                }
            }
        }
    }

    /** "Tells the covariance of two inputs.": of these two, either way, and of no others. */
    private static void covariancesOfEachTwo() {
        UncertainBook book = new UncertainBook();
        for (int input = 0; input < 6; input++) {
            for (int other = 0; other < input; other++) {
                Check.due("at first", 0, book.together(input, other, 10 * input + other));
            }
        }
        book.shape(5, 1, 1, 1);
        book.read(0, 1);
        book.unit(3, 1, 1);
        for (int input = 0; input < 6; input++) {
            for (int other = 0; other < input; other++) {
                int due = 10 * input + other;
                Check.due("the other way round", due, book.together(other, input, due));
                Check.due("the one way", due, book.together(input, other, due));
            }
        }
    }

    /** "IllegalArgumentException if both are the same". */
    private static void covariancesOfTheSame() {
        UncertainBook book = Check.book("a+b+c+d+e+f");
        for (int input = 0; input < 6; input++) {
            int told = input;
            Check.argument("0 with itself", book, () -> book.together(told, told, 0));
            Check.argument("9999 with itself", book, () -> book.together(told, told, 9999));
            Check.argument("10000 with itself", book, () -> book.together(told, told, 10000));
        }
    }

    /** "If several exceptions apply, the one that is named first": together. */
    private static void firstExceptionOfTogether() {
        UncertainBook book = Check.book("a+b");
        for (int input : NO_INPUTS) {
            Check.place("the same beyond", book, () -> book.together(input, input, 0));
            Check.place("a value and the first", book, () -> book.together(input, 0, 10000));
            Check.place("a value and the second", book, () -> book.together(0, input, -10000));
        }
    }

    /** "what: 0 its estimate, .. 4 its half width, or how many readings". */
    private static void numbersOfAnInput() {
        UncertainBook book = Check.book("a");
        book.shape(0, -5, 3, 9);
        Check.inputIs(book, 0, -5, 40, 3, 0, 9);
        for (int what : new int[] {-1, 5, Integer.MIN_VALUE, Integer.MAX_VALUE}) {
            Check.argument("input(0, " + what + ")", book, () -> book.input(0, what));
        }
        book.read(0, 12);
        Check.inputIs(book, 0, 12, 0, 4, 0, 1);
        book.shape(0, 7, 0, 0);
        Check.inputIs(book, 0, 7, 0, 0, 0, 0);
    }

    /** "If several exceptions apply, the one that is named first": input. */
    private static void firstExceptionOfInput() {
        UncertainBook book = new UncertainBook();
        for (int input : NO_INPUTS) {
            Check.place("what below beside " + input, book, () -> book.input(input, -1));
            Check.place("what above beside " + input, book, () -> book.input(input, 5));
        }
    }
}
