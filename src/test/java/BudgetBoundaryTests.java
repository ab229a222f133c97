import java.math.BigInteger;

/**
 * Promises 14 to 17 at their edges: a test for each sentence of the document that names one.
 * What stands in quotes above a test is that sentence.
 */
final class BudgetBoundaryTests {
    /** 2 to the 60, to be multiplied. */
    private static final String GREAT = "((2^4)^4)^3*2^4*2^4*2^4";

    private BudgetBoundaryTests() {
    }

    public static void main(String[] args) {
        numbersOfABudget();
        budgetByWhatThereIsNow();
        varianceWithoutContributions();
        varianceByCovariancesAlone();
        variancesGoRound();
        doubtOfTheGreatestSquares();
        doubtBelowZero();
        doubtOfSmallVariances();
        sharesAreRoundedTowardsZero();
        shareOfNoVariance();
        sharesAboveAHundred();
        sharesGoRound();
        contributionsGoRound();
        ranksOfTheSame();
        ranksOfContributionsBelowZero();
        ranksByPlaces();
        degreesNoneByTheSum();
        degreesOfSmallShares();
        degreesAtMost();
        degreesOfZero();
        degreesOfEachDivision();
        degreesBelowZeroAreNotNone();
        factorAtItsDegrees();
        factorByNoneOfTheSum();
        factorOfDegreesBelowTheTable();
        factorOfAnEmptyTable();
        statedDoubtIsRoundedDown();
        statedDoubtByAFactorOfZero();
        statedDoubtWithoutOneOfBoth();
        greatestStatedDoubt();
        degreesOfTheTable();
        factorsOfTheTable();
        factorsTakenAway();
        atMostTwelveFactors();
        firstExceptionOfTable();
        questionsBeyondTheModels();
        questionsBeyondTheInputs();
        Check.end();
    }

    /** "what: 0 its variance, .. 4 the stated doubt". */
    private static void numbersOfABudget() {
        UncertainBook book = Check.book("a");
        book.shape(0, 0, 3, 3);
        Check.budgetIs(book, 0, 4, 2, -1, 200, 4);
        for (int what : new int[] {-1, 5, Integer.MIN_VALUE, Integer.MAX_VALUE}) {
            Check.argument("budget(0, " + what + ")", book, () -> book.budget(0, what));
        }
    }

    /** "A budget is of a model, by what there is now." */
    private static void budgetByWhatThereIsNow() {
        UncertainBook book = Check.book("a*b", "a+b");
        book.shape(0, 5, 3, 2);
        Check.budgetIs(book, 0, 0);
        Check.budgetIs(book, 1, 2);
        book.shape(1, -3, 0, 0);
        Check.budgetIs(book, 0, 18);
        Check.due("the contribution", 18, book.contribution(0, 0, false));
        book.shape(1, -3, 3, 2);
        Check.budgetIs(book, 0, 18 + 50);
        Check.due("the first by rank", 1, book.ranked(0, 0));
        book.together(0, 1, 1);
        Check.budgetIs(book, 0, 68 - 30);
        Check.model(book, 0, "a");
        Check.budgetIs(book, 0, 2);
        Check.due("the first by rank then", 0, book.ranked(0, 0));
        Check.budgetIs(book, 1, 2 + 2 + 2);
    }

    /** "Its variance is 0 for none", so that there are no contributions. */
    private static void varianceWithoutContributions() {
        UncertainBook book = Check.book("a+b", "7", "a^0");
        book.shape(2, 0, 3, 99);
        for (int model = 0; model < 3; model++) {
            Check.budgetIs(book, model, 0, 0, -1, 200, 0);
        }
        Check.contributionsAre(book, 0, 0, 0, 0, 0, 0);
        Check.sharesAre(book, 0, 0, 0, 0, 0, 0);
        Check.ranksAre(book, 0, 1, 2, 3, 4, 5, -1);
    }

    /** "and 2 times, for each two inputs, both sensitivities and their covariance, multiplied". */
    private static void varianceByCovariancesAlone() {
        UncertainBook book = Check.book("a+b-c+d-e+f");
        int sum = 0;
        for (int input = 0; input < 6; input++) {
            for (int other = input + 1; other < 6; other++) {
                int sign = (input == 2 || input == 4) == (other == 2 || other == 4) ? 1 : -1;
                book.together(input, other, 10 * input + other);
                sum += 2 * sign * (10 * input + other);
                Check.budgetIs(book, 0, sum);
            }
        }
        Check.contributionsAre(book, 0, 0, 0, 0, 0, 0);
        Check.sharesAre(book, 0, 0, 0, 0, 0, 0);
    }

    /** "All is reckoned with longs that go round": the variance of a model too. */
    private static void variancesGoRound() {
        UncertainBook book = Check.book(GREAT + "*8*a", GREAT + "*(a+b)", "1024^3*(a+b)");
        book.shape(0, 0, 3, 2);
        Check.budgetIs(book, 0, 0, 0, -1, 200, 0);
        book.together(0, 1, 9999);
        Check.budgetIs(book, 1, 0, 0, -1, 200, 0);
        book.shape(1, 0, 3, 2);
        book.together(0, 1, 0);
        Check.budgetIs(book, 2, 1L << 62);
        book.together(0, 1, 2);
        Check.budgetIs(book, 2, Long.MIN_VALUE, -1, -1, 200, -1);
        book.together(0, 1, 6);
        Check.budgetIs(book, 2, 0, 0, -1, 200, 0);
        book.together(0, 1, -6);
        Check.budgetIs(book, 2, Long.MIN_VALUE, -1, -1, 200, -1);
        book.together(0, 1, -8);
        Check.budgetIs(book, 2, 1L << 62, 1L << 31, -1, 200, 1L << 32);
    }

    private static void doubtIs(String text, int width, int covariance, long variance, long due) {
        UncertainBook book = Check.book(text);
        book.shape(0, 0, 1, width);
        book.together(1, 2, covariance);
        Check.budgetIs(book, 0, variance, due);
    }

    /** "the greatest whole number of which the square is at most that", up to the last long. */
    private static void doubtOfTheGreatestSquares() {
        String root = "(9999*(9999*30+3760)+4229)*a";
        long greatest = 3037000499L;
        doubtIs(root + "+b+c", 2, 0, greatest * greatest, greatest);
        doubtIs(root + "+b+c", 2, 1, greatest * greatest + 2, greatest);
        doubtIs(root + "+b+c", 2, -1, greatest * greatest - 2, greatest - 1);
        doubtIs("1024^3*a+b+c", 3, -1, 3 * (1L << 60) - 2, 1859775393L);
        UncertainBook book = Check.book("1024^3*(a+d)+b+c");
        book.shape(0, 0, 3, 4);
        book.together(1, 2, -1);
        Check.budgetIs(book, 0, Long.MAX_VALUE - 1, greatest, -1, 200, 2 * greatest);
        book.together(1, 2, 0);
        Check.budgetIs(book, 0, Long.MIN_VALUE, -1, -1, 200, -1);
    }

    /** "NONE if it is below 0". */
    private static void doubtBelowZero() {
        UncertainBook book = Check.book("a+b", "c");
        book.shape(0, 0, 3, 2);
        book.together(0, 1, -1);
        Check.budgetIs(book, 0, 0, 0, -1, 200, 0);
        book.together(0, 1, -2);
        Check.budgetIs(book, 0, -2, -1, -1, 200, -1);
        book.shape(1, 0, 1, 2);
        Check.budgetIs(book, 0, -1, -1, -1, 200, -1);
        Check.budgetIs(book, 1, 0, 0, -1, 200, 0);
        book.shape(1, 0, 3, 2);
        Check.budgetIs(book, 0, 0, 0, -1, 200, 0);
    }

    /** The same for small variances, squares among them. */
    private static void doubtOfSmallVariances() {
        UncertainBook book = Check.book("a+b");
        for (int width = 0; width <= 70; width++) {
            for (int one = 0; one <= 2; one++) {
                long variance = book.shape(0, 0, 3, width) + book.shape(1, 0, 1, one);
                long doubt = book.budget(0, 1);
                Check.budgetIs(book, 0, variance);
                Check.due("whether " + doubt + " is the doubt of " + variance, 1,
                        doubt >= 0 && doubt * doubt <= variance
                        && (doubt + 1) * (doubt + 1) > variance ? 1 : 0);
            }
        }
        int[] squares = {0, 1, 4, 9, 16, 25};
        UncertainBook just = Check.book("a*b");
        just.shape(0, 0, 1, 2);
        for (int root = 0; root < 6; root++) {
            just.shape(1, -root, 0, 0);
            Check.budgetIs(just, 0, squares[root], root, -1, 200, 2 * root);
        }
    }

    /** "100 times its contribution, divided by the variance of the model, rounded towards 0". */
    private static void sharesAreRoundedTowardsZero() {
        UncertainBook book = Check.book("a+b+c");
        for (int input = 0; input < 3; input++) {
            book.shape(input, 0, 1, 2);
        }
        Check.sharesAre(book, 33, 33, 33, 0, 0, 0);
        book.shape(2, 0, 0, 0);
        book.together(0, 1, -1);
        Check.sharesAre(book, 0, 0, 0, 0, 0, 0);
        book.together(0, 1, -2);
        Check.budgetIs(book, 0, -2);
        Check.sharesAre(book, -50, -50, 0, 0, 0, 0);
        book.shape(1, 0, 0, 0);
        Check.budgetIs(book, 0, -3);
        Check.sharesAre(book, -33, 0, 0, 0, 0, 0);
        book.together(0, 1, -51);
        Check.budgetIs(book, 0, -101);
        Check.sharesAre(book, 0, 0, 0, 0, 0, 0);
        book.shape(1, 0, 1, 2);
        Check.budgetIs(book, 0, -100);
        Check.sharesAre(book, -1, -1, 0, 0, 0, 0);
        book.together(0, 1, 49);
        Check.budgetIs(book, 0, 100);
        Check.sharesAre(book, 1, 1, 0, 0, 0, 0);
    }

    /** "0 if that variance is 0". */
    private static void shareOfNoVariance() {
        UncertainBook book = Check.book("a-b");
        book.shape(0, 0, 3, 4);
        book.shape(1, 0, 3, 4);
        book.together(0, 1, 8);
        Check.budgetIs(book, 0, 0);
        Check.contributionsAre(book, 8, 8, 0, 0, 0, 0);
        Check.sharesAre(book, 0, 0, 0, 0, 0, 0);
        Check.ranksAre(book, 0, 1, 2, 3, 4, 5);
    }

    /** A share is of the model's variance, which can be less than a contribution. */
    private static void sharesAboveAHundred() {
        UncertainBook book = Check.book("a-b");
        book.shape(0, 0, 3, 99);
        book.shape(1, 0, 1, 2);
        Check.sharesAre(book, 99, 0, 0, 0, 0, 0);
        book.together(0, 1, 2450);
        Check.budgetIs(book, 0, 1);
        Check.sharesAre(book, 490000, 100, 0, 0, 0, 0);
    }

    /** 100 times a contribution goes round, and so does the least long by -1. */
    private static void sharesGoRound() {
        UncertainBook book = Check.book("1024^3*a+b+c");
        book.shape(0, 0, 1, 2);
        Check.contributionsAre(book, 1L << 60, 0, 0, 0, 0, 0);
        Check.sharesAre(book, 4, 0, 0, 0, 0, 0);
        UncertainBook least = Check.book("1024^3*(a+b)+c+d+e");
        least.shape(0, 0, 3, 2);
        least.together(0, 1, -1);
        least.shape(4, 0, 1, 2);
        least.together(2, 3, -1);
        Check.budgetIs(least, 0, -1, -1, -1, 200, -1);
        Check.sharesAre(least, Long.MIN_VALUE, 0, 0, 0, -100, 0);
    }

    /** "its sensitivity, squared, times its variance", going round. */
    private static void contributionsGoRound() {
        UncertainBook book = Check.book("9999^4*9999^2*a");
        BigInteger square = BigInteger.valueOf(9999).pow(12);
        for (int sort = 1; sort <= 3; sort++) {
            for (int width = 0; width <= 99; width += 9) {
                long variance = book.shape(0, 0, sort, width);
                long due = square.multiply(BigInteger.valueOf(variance)).longValue();
                Check.contributionsAre(book, due, 0, 0, 0, 0, 0);
                Check.budgetIs(book, 0, due);
            }
        }
    }

    /** "by falling contributions, of the same by rising numbers". */
    private static void ranksOfTheSame() {
        UncertainBook book = Check.book("a-b+c-d+e-f");
        for (int input = 0; input < 6; input++) {
            book.shape(input, 0, 3, 7);
        }
        Check.ranksAre(book, 0, 1, 2, 3, 4, 5, -1);
        book.shape(5, 0, 3, 9);
        Check.ranksAre(book, 5, 0, 1, 2, 3, 4, -1);
        book.shape(0, 0, 3, 5);
        Check.ranksAre(book, 5, 1, 2, 3, 4, 0, -1);
        book.shape(2, 0, 3, 9);
        Check.ranksAre(book, 2, 5, 1, 3, 4, 0, -1);
        book.shape(3, 0, 0, 0);
        book.shape(1, 0, 0, 0);
        Check.ranksAre(book, 2, 5, 4, 0, 1, 3, -1);
    }

    /** A contribution that goes round below 0 stands behind those of 0. */
    private static void ranksOfContributionsBelowZero() {
        UncertainBook book = Check.book("1024^3*a+b+1024^3*d");
        book.shape(0, 0, 3, 4);
        book.shape(1, 0, 1, 2);
        Check.contributionsAre(book, Long.MIN_VALUE, 1, 0, 0, 0, 0);
        Check.ranksAre(book, 1, 2, 3, 4, 5, 0, -1);
        book.shape(3, 0, 3, 4);
        Check.ranksAre(book, 1, 2, 4, 5, 0, 3, -1);
        book.shape(3, 0, 3, 3);
        Check.contributionsAre(book, Long.MIN_VALUE, 1, 0, 1L << 62, 0, 0);
        Check.ranksAre(book, 3, 1, 2, 4, 5, 0, -1);
    }

    /** "Returns the input; NONE above 5.", and no such place "if it is below 0". */
    private static void ranksByPlaces() {
        UncertainBook book = Check.book("f");
        book.shape(5, 0, 3, 2);
        Check.due("ranked(0, 0)", 5, book.ranked(0, 0));
        Check.due("ranked(0, 5)", 4, book.ranked(0, 5));
        for (int place : new int[] {6, 7, 60, Integer.MAX_VALUE}) {
            Check.due("ranked(0, " + place + ")", -1, book.ranked(0, place));
            Check.place("ranked(1, " + place + ")", book, () -> book.ranked(1, place));
        }
        for (int place : new int[] {-1, -2, Integer.MIN_VALUE}) {
            Check.place("ranked(0, " + place + ")", book, () -> book.ranked(0, place));
            Check.place("ranked(-1, " + place + ")", book, () -> book.ranked(-1, place));
        }
    }

    /** "NONE if that sum is 0": without degrees, or by one reading. */
    private static void degreesNoneByTheSum() {
        UncertainBook book = Check.book("a", "a+b");
        book.shape(0, 0, 3, 9);
        Check.budgetIs(book, 0, 40, 6, -1, 200, 12);
        book.read(1, 99);
        Check.budgetIs(book, 1, 40, 6, -1, 200, 12);
        Check.readings(book, 1, 99);
        Check.due("degrees of a variance of 0", 1, book.input(1, 3));
        Check.budgetIs(book, 1, 40, 6, -1, 200, 12);
        Check.readings(book, 2, 0, 100);
        Check.budgetIs(book, 1, 40, 6, -1, 200, 12);
        book.read(1, 0);
        Check.due("degrees of a variance", 1089, book.input(1, 1));
        Check.budgetIs(book, 1, 1129, 33, 10000 / (96 * 96 / 2), 200, 66);
    }

    /** A share that is rounded to 0, or whose square is less than its degrees, adds nothing. */
    private static void degreesOfSmallShares() {
        UncertainBook book = Check.book("a+b+c+d");
        Check.readings(book, 0, 0, 2);
        book.shape(1, 0, 1, 17);
        Check.due("almost a hundred", 96, book.input(1, 1));
        book.shape(2, 0, 1, 3);
        Check.budgetIs(book, 0, 100, 10, 10000, 200, 20);
        Check.sharesAre(book, 1, 96, 3, 0, 0, 0);
        book.shape(3, 0, 1, 2);
        Check.budgetIs(book, 0, 101, 10, -1, 200, 20);
        Check.sharesAre(book, 0, 95, 2, 0, 0, 0);
        UncertainBook two = Check.book("a+b+c");
        Check.readings(two, 0, 0, 0, 3);
        two.shape(1, 0, 1, 17);
        two.shape(2, 0, 1, 3);
        Check.sharesAre(two, 1, 96, 3, 0, 0, 0);
        Check.due("the degrees of three readings", 2, two.input(0, 3));
        Check.budgetIs(two, 0, 100, 10, -1, 200, 20);
    }

    /** By a sum of 1 they are 10000, above all of the table. */
    private static void degreesAtMost() {
        UncertainBook book = Check.book("a+b+c");
        Check.readings(book, 0, 0, 2);
        book.shape(1, 0, 1, 17);
        book.shape(2, 0, 1, 3);
        book.table(9999, 196);
        Check.budgetIs(book, 0, 100, 10, 10000, 196, 19);
        UncertainBook all = Check.book("a");
        for (int n = 1; n <= 8; n++) {
            all.read(0, n % 2 == 0 ? -900 : 900);
            long sum = n > 1 ? 10000 / (n - 1) : 0;
            Check.due("the degrees of " + n, n > 1 ? 10000 / sum : -1, all.budget(0, 2));
        }
        Check.due("of eight", 7, all.budget(0, 2));
    }

    /** By a sum above 10000 they are 0, which is not NONE. */
    private static void degreesOfZero() {
        UncertainBook book = Check.book("a+b");
        Check.readings(book, 0, 0, 20);
        Check.budgetIs(book, 0, 100, 10, 1, 200, 20);
        book.shape(1, 0, 0, 0);
        book.together(0, 1, -1);
        Check.sharesAre(book, 102, 0, 0, 0, 0, 0);
        Check.budgetIs(book, 0, 98, 9, 0, -1, -1);
        book.together(0, 1, 1);
        Check.sharesAre(book, 98, 0, 0, 0, 0, 0);
        Check.budgetIs(book, 0, 102, 10, 1, 200, 20);
        book.together(0, 1, -51);
        Check.budgetIs(book, 0, -2, -1, 0, -1, -1);
    }

    /** "the square of the share, divided by its degrees; .. each division rounded towards 0". */
    private static void degreesOfEachDivision() {
        UncertainBook book = Check.book("a+b+c");
        Check.readings(book, 0, 0, 0, 3);
        Check.readings(book, 1, 0, 0, 3);
        book.shape(2, 0, 1, 17);
        Check.sharesAre(book, 1, 1, 97, 0, 0, 0);
        Check.budgetIs(book, 0, 98, 9, -1, 200, 18);
        UncertainBook unlike = Check.book("a+b");
        Check.readings(unlike, 0, 0, 20);
        Check.readings(unlike, 1, 0, 0, 30);
        Check.sharesAre(unlike, 50, 50, 0, 0, 0, 0);
        Check.budgetIs(unlike, 0, 200, 14, 10000 / (2500 + 1250), 200, 28);
    }

    /** "if it has NONE by that sum": -1 by a sum below 0 is a number of degrees. */
    private static void degreesBelowZeroAreNotNone() {
        UncertainBook book = Check.book("133*a+19*(b+c)+d+2000*e+f");
        Check.readings(book, 0, 492, -492);
        Check.readings(book, 1, 963, -964);
        Check.readings(book, 2, 113, -114);
        Check.readings(book, 3, 708, -708);
        book.together(0, 4, -8688);
        book.together(0, 5, -501);
        book.together(3, 5, -124);
        Check.sharesAre(book, 4281870096L, 335127852, 4650402, 501264, 0, 0);
        Check.budgetIs(book, 0, 100, 10, -1, -1, -1);
        book.table(9999, 100);
        Check.budgetIs(book, 0, 100, 10, -1, -1, -1);
        Check.due("no draw hits", 0, book.draw(0, 10));
        book.table(1, -1);
        Check.budgetIs(book, 0, 100, 10, -1, -1, -1);
    }

    /** "that of the greatest degrees in the table that are at most its own". */
    private static void factorAtItsDegrees() {
        UncertainBook book = Check.book("a");
        Check.readings(book, 0, 0, 40, 20, 10, 30);
        Check.due("the degrees", 4, book.budget(0, 2));
        book.table(5, 250);
        Check.due("one more", 200, book.budget(0, 3));
        book.table(4, 240);
        Check.due("just as many", 240, book.budget(0, 3));
        book.table(3, 230);
        Check.due("one less is not the greatest", 240, book.budget(0, 3));
        book.table(4, -1);
        Check.due("one less", 230, book.budget(0, 3));
        book.table(3, -1);
        Check.due("the first one", 200, book.budget(0, 3));
        book.table(1, -1);
        Check.due("none at most its own", -1, book.budget(0, 3));
    }

    /** "if it has NONE by that sum, that of the greatest degrees in the table". */
    private static void factorByNoneOfTheSum() {
        UncertainBook book = Check.book("a");
        book.shape(0, 0, 3, 9);
        int[] degrees = {1, 7, 3, 9999, 9998};
        int[] due = {11, 12, 12, 14, 14};
        for (int k = 0; k < 5; k++) {
            book.table(degrees[k], 11 + k);
            Check.due("with " + degrees[k], due[k], book.budget(0, 3));
        }
        book.table(9999, -1);
        Check.due("without the greatest", 15, book.budget(0, 3));
    }

    /** "NONE if there is no such one": by degrees of 0, or fewer than the table's first. */
    private static void factorOfDegreesBelowTheTable() {
        UncertainBook book = Check.book("a+b");
        Check.readings(book, 0, 0, 20);
        book.table(2, 300);
        Check.budgetIs(book, 0, 100, 10, 1, 200, 20);
        book.table(1, -1);
        Check.budgetIs(book, 0, 100, 10, 1, -1, -1);
        book.read(0, 10);
        Check.budgetIs(book, 0, 33, 5, 2, 300, 15);
    }

    /** The same without any factor. */
    private static void factorOfAnEmptyTable() {
        UncertainBook book = Check.book("a", "b", "7");
        book.shape(0, 0, 3, 9);
        Check.readings(book, 1, 0, 20);
        Check.due("none left", 0, book.table(1, -1));
        Check.budgetIs(book, 0, 40, 6, -1, -1, -1);
        Check.budgetIs(book, 1, 100, 10, 1, -1, -1);
        Check.budgetIs(book, 2, 0, 0, -1, -1, -1);
        Check.due("one again", 1, book.table(2, 150));
        Check.budgetIs(book, 0, 40, 6, -1, 150, 9);
        Check.budgetIs(book, 1, 100, 10, 1, -1, -1);
    }

    /** "the doubt times the factor, divided by 100, rounded down". */
    private static void statedDoubtIsRoundedDown() {
        UncertainBook book = Check.book("3*a");
        book.shape(0, 0, 1, 2);
        int[] factors = {1, 33, 34, 66, 67, 99, 100, 133, 134, 999};
        int[] due = {0, 0, 1, 1, 2, 2, 3, 3, 4, 29};
        for (int k = 0; k < 10; k++) {
            book.table(1, factors[k]);
            Check.budgetIs(book, 0, 9, 3, -1, factors[k], due[k]);
        }
    }

    /** A factor of 0 is one. */
    private static void statedDoubtByAFactorOfZero() {
        UncertainBook book = Check.book("a");
        book.shape(0, 0, 3, 9);
        book.table(1, 0);
        Check.budgetIs(book, 0, 40, 6, -1, 0, 0);
        book.shape(0, 0, 3, 0);
        Check.due("all draws hit", 10, book.draw(0, 10));
    }

    /** "NONE without one of both". */
    private static void statedDoubtWithoutOneOfBoth() {
        UncertainBook book = Check.book("a+b");
        Check.budgetIs(book, 0, 0, 0, -1, 200, 0);
        book.together(0, 1, -1);
        Check.budgetIs(book, 0, -2, -1, -1, 200, -1);
        book.table(1, 0);
        Check.budgetIs(book, 0, -2, -1, -1, 0, -1);
        book.table(1, -1);
        Check.budgetIs(book, 0, -2, -1, -1, -1, -1);
        book.together(0, 1, 0);
        Check.budgetIs(book, 0, 0, 0, -1, -1, -1);
    }

    /** The greatest doubt by the greatest factor does not go round. */
    private static void greatestStatedDoubt() {
        UncertainBook book = Check.book("(9999*(9999*30+3760)+4229)*a");
        book.shape(0, 0, 1, 2);
        book.table(1, 999);
        long greatest = 3037000499L;
        Check.budgetIs(book, 0, greatest * greatest, greatest, -1, 999, greatest * 999 / 100);
    }

    /** "degrees: 1 to 9999". */
    private static void degreesOfTheTable() {
        UncertainBook book = Check.book("a");
        Check.due("the least", 1, book.table(1, 5));
        Check.due("the greatest", 2, book.table(9999, 6));
        Check.due("its factor", 6, book.budget(0, 3));
        for (int degrees : new int[] {0, -1, 10000, Integer.MIN_VALUE, Integer.MAX_VALUE}) {
            for (int factor : new int[] {-1, 0, 999}) {
                Check.argument("degrees " + degrees, book, () -> book.table(degrees, factor));
            }
        }
        Check.due("the greatest gone", 1, book.table(9999, -1));
        Check.due("the least gone", 0, book.table(1, -1));
    }

    /** "factor: 0 to 999 hundredths; NONE for no factor there any more". */
    private static void factorsOfTheTable() {
        UncertainBook book = Check.book("a");
        for (int factor : new int[] {0, 999, 1, 998}) {
            Check.due("factor " + factor, 1, book.table(1, factor));
            Check.due("the model's", factor, book.budget(0, 3));
        }
        for (int factor : new int[] {-2, 1000, Integer.MIN_VALUE, Integer.MAX_VALUE}) {
            Check.argument("factor " + factor + " anew", book, () -> book.table(1, factor));
            Check.argument("factor " + factor + " more", book, () -> book.table(2, factor));
        }
        Check.due("NONE", 0, book.table(1, -1));
    }

    /** "NONE for no factor there any more": of each of twelve, and where there is none. */
    private static void factorsTakenAway() {
        for (int gone = 1; gone <= 12; gone++) {
            UncertainBook book = Check.book("a");
            for (int degrees = 1; degrees <= 12; degrees++) {
                book.table(degrees, 100 * degrees % 1000);
            }
            Check.due("none there", 12, book.table(13, -1));
            Check.due("one there", 11, book.table(gone, -1));
            Check.due("none there any more", 11, book.table(gone, -1));
            for (int left = 12; left >= 1; left--) {
                if (left != gone) {
                    Check.due("the greatest", 100 * left % 1000, book.budget(0, 3));
                    book.table(left, -1);
                }
            }
            Check.due("no factor", -1, book.budget(0, 3));
            Check.due("none at all", 0, book.table(gone, -1));
        }
    }

    /** "IllegalStateException if there would be more than 12". */
    private static void atMostTwelveFactors() {
        UncertainBook book = Check.book("a", "b");
        Check.readings(book, 0, 0, 20);
        for (int degrees = 2; degrees <= 12; degrees++) {
            Check.due("one more", degrees, book.table(degrees, 10 * degrees));
        }
        for (int degrees : new int[] {13, 9999, 500}) {
            for (int factor : new int[] {0, 999}) {
                Check.state("a thirteenth", book, () -> book.table(degrees, factor));
            }
            Check.due("none of it", 12, book.table(degrees, -1));
        }
        Check.due("the greatest as it was", 120, book.budget(1, 3));
        for (int degrees = 1; degrees <= 12; degrees++) {
            Check.due("one of them anew", 12, book.table(degrees, 11 * degrees));
        }
        Check.due("the greatest anew", 132, book.budget(1, 3));
        Check.due("the least anew", 11, book.budget(0, 3));
        Check.due("one less", 11, book.table(5, -1));
        Check.due("room for one", 12, book.table(9999, 7));
        Check.due("its factor", 7, book.budget(1, 3));
        Check.state("and for no more", book, () -> book.table(5, 1));
    }

    /** "If several exceptions apply, the one that is named first": table. */
    private static void firstExceptionOfTable() {
        UncertainBook book = Check.book("a");
        for (int degrees = 2; degrees <= 12; degrees++) {
            book.table(degrees, 100);
        }
        Check.argument("degrees below", book, () -> book.table(0, 1));
        Check.argument("degrees above", book, () -> book.table(10000, 1));
        Check.argument("a factor below", book, () -> book.table(13, -2));
        Check.argument("a factor above", book, () -> book.table(13, 1000));
        Check.state("neither", book, () -> book.table(13, 1));
    }

    /** "there is no such .. model", and of several exceptions the first one. */
    private static void questionsBeyondTheModels() {
        UncertainBook book = new UncertainBook();
        for (int models = 0; models <= 8; models++) {
            for (int model : new int[] {models, 8, -1, Integer.MIN_VALUE, Integer.MAX_VALUE}) {
                Check.place("budget", book, () -> book.budget(model, 0));
                Check.place("budget and what below", book, () -> book.budget(model, -1));
                Check.place("budget and what above", book, () -> book.budget(model, 5));
                Check.place("contribution", book, () -> book.contribution(model, 0, false));
                Check.place("its share", book, () -> book.contribution(model, 0, true));
                Check.place("ranked", book, () -> book.ranked(model, 0));
            }
            if (models < 8) {
                Check.model(book, models, "f");
                Check.due("what there is", 0, book.budget(models, 0));
            }
        }
    }

    /** "IndexOutOfBoundsException as told, of both". */
    private static void questionsBeyondTheInputs() {
        UncertainBook book = Check.book("a*f");
        for (int input : new int[] {-1, 6, Integer.MIN_VALUE, Integer.MAX_VALUE}) {
            Check.place("contribution", book, () -> book.contribution(0, input, false));
            Check.place("its share", book, () -> book.contribution(0, input, true));
            Check.place("both", book, () -> book.contribution(1, input, true));
        }
        Check.due("of the first", 0, book.contribution(0, 0, true));
        Check.due("of the last", 0, book.contribution(0, 5, false));
    }
}
