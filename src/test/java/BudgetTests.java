import java.math.BigInteger;

/** Promises 14 to 17: budget, contribution, ranked, table. */
final class BudgetTests {
    private BudgetTests() {
    }

    public static void main(String[] args) {
        aBudget();
        withCovariances();
        belowZero();
        roots();
        shares();
        ranks();
        degrees();
        factors();
        degreesThatAreNoneAndNot();
        statedDoubts();
        tables();
        tableRefused();
        questionsRefused();
        Check.end();
    }

    private static void aBudget() {
        UncertainBook book = Check.book("a*b-2*c", "7");
        book.shape(0, 5, 1, 6);
        book.shape(1, -4, 2, 12);
        book.shape(2, 100, 3, 3);
        book.shape(3, 100, 3, 99);
        Check.budgetIs(book, 0, 16 * 12 + 25 * 24 + 4 * 4, 28, -1, 200, 56);
        Check.contributionsAre(book, 192, 600, 16, 0, 0, 0);
        Check.sharesAre(book, 23, 74, 1, 0, 0, 0);
        Check.ranksAre(book, 1, 0, 2, 3, 4, 5, -1, -1);
        Check.budgetIs(book, 1, 0, 0, -1, 200, 0);
    }

    private static void withCovariances() {
        UncertainBook book = Check.book("2*a-3*b+c");
        book.shape(0, 1, 3, 4);
        book.shape(1, 1, 3, 6);
        Check.budgetIs(book, 0, 4 * 8 + 9 * 18);
        book.together(0, 1, 5);
        Check.budgetIs(book, 0, 194 - 2 * 6 * 5);
        book.together(2, 1, 7);
        Check.budgetIs(book, 0, 134 - 2 * 3 * 7);
        book.together(0, 2, -1);
        Check.budgetIs(book, 0, 92 - 2 * 2);
        book.together(0, 5, 9999);
        Check.budgetIs(book, 0, 88, 9, -1, 200, 18);
        Check.contributionsAre(book, 32, 162, 0, 0, 0, 0);
        Check.sharesAre(book, 36, 184, 0, 0, 0, 0);
        UncertainBook last = Check.book("e*f");
        last.shape(4, 3, 0, 0);
        last.shape(5, -2, 0, 0);
        last.together(5, 4, -10);
        Check.budgetIs(last, 0, 120, 10, -1, 200, 20);
    }

    private static void belowZero() {
        UncertainBook book = Check.book("a+b");
        book.shape(0, 0, 3, 4);
        book.shape(1, 0, 3, 2);
        book.together(0, 1, -8);
        Check.budgetIs(book, 0, 8 + 2 - 16, -1, -1, 200, -1);
        Check.sharesAre(book, -133, -33, 0, 0, 0, 0);
        Check.ranksAre(book, 0, 1, 2, 3, 4, 5);
        book.together(0, 1, -5);
        Check.budgetIs(book, 0, 0, 0, -1, 200, 0);
        Check.sharesAre(book, 0, 0, 0, 0, 0, 0);
        Check.contributionsAre(book, 8, 2, 0, 0, 0, 0);
    }

    private static void rootIs(String text, int sort, int width, long variance, long doubt) {
        UncertainBook book = Check.book(text);
        book.shape(0, 0, sort, width);
        book.together(1, 2, -1);
        Check.budgetIs(book, 0, variance, doubt);
    }

    private static void roots() {
        UncertainBook book = Check.book("a", "3*a", "9999^2*a", "9999^3*a", "9999^4*9999*a");
        for (int width = 0; width < 100; width++) {
            book.shape(0, 0, 3, width);
            for (int model = 0; model < 5; model++) {
                BigInteger variance = BigInteger.valueOf(book.budget(model, 0));
                long due = variance.signum() < 0 ? -1 : variance.sqrt().longValue();
                Check.due("the doubt of " + variance, due, book.budget(model, 1));
            }
        }
        rootIs("1024^3*a", 3, 2, 1L << 61, 1518500249L);
        rootIs("1024^3*a", 3, 3, 1L << 62, 1L << 31);
        rootIs("1024^3*a+b+c", 3, 3, (1L << 62) - 2, (1L << 31) - 1);
        rootIs("1024^3*a", 3, 4, Long.MIN_VALUE, -1);
        rootIs("1024^3*a+b+c", 3, 4, Long.MAX_VALUE - 1, 3037000499L);
        String root = "(9999*(9999*30+3760)+4229)*a";
        rootIs(root, 1, 2, 3037000499L * 3037000499L, 3037000499L);
        rootIs(root + "+b+c", 1, 2, 3037000499L * 3037000499L - 2, 3037000498L);
        rootIs(root + "+a", 1, 2, 3037000500L * 3037000500L, -1);
    }

    private static void shares() {
        UncertainBook book = Check.book("a+b+c");
        book.shape(0, 0, 3, 2);
        book.shape(1, 0, 3, 2);
        book.shape(2, 0, 3, 2);
        Check.sharesAre(book, 33, 33, 33, 0, 0, 0);
        UncertainBook wide = Check.book("1024^3*(a+b)+c+d+e");
        wide.shape(0, 0, 3, 3);
        Check.due("a share that goes round to 0", 0, wide.contribution(0, 0, true));
        wide.shape(0, 0, 3, 2);
        Check.due("one that goes round below", -4, wide.contribution(0, 0, true));
        wide.shape(4, 0, 1, 2);
        wide.together(0, 1, -1);
        wide.together(2, 3, -1);
        Check.budgetIs(wide, 0, -1, -1, -1, 200, -1);
        Check.due("the least long by -1", Long.MIN_VALUE, wide.contribution(0, 0, true));
        Check.due("another share", -100, wide.contribution(0, 4, true));
    }

    private static void ranks() {
        UncertainBook book = Check.book("a+b+c+d+e+f");
        Check.ranksAre(book, 0, 1, 2, 3, 4, 5, -1);
        int[] widths = {4, 8, 4, 20, 2, 8};
        for (int input = 0; input < 6; input++) {
            book.shape(input, 0, 3, widths[input]);
        }
        Check.ranksAre(book, 3, 1, 5, 0, 2, 4, -1);
        Check.due("a far place", -1, book.ranked(0, Integer.MAX_VALUE));
        UncertainBook round = Check.book("9999^4*9999*a+b");
        round.shape(1, 0, 3, 2);
        for (int width = 0; width < 100; width++) {
            round.shape(0, 0, 3, width);
            long contribution = round.contribution(0, 0, false);
            int first = contribution >= 2 ? 0 : 1;
            Check.due("the first by " + contribution, first, round.ranked(0, 0));
            Check.due("the last by " + contribution, contribution < 0 ? 0 : 5,
                    round.ranked(0, 5));
        }
    }

    private static void degrees() {
        UncertainBook one = Check.book("a");
        one.read(0, 3);
        Check.budgetIs(one, 0, 0, 0, -1, 200, 0);
        one.read(0, 9);
        Check.budgetIs(one, 0, 9, 3, 1, 200, 6);
        one.read(0, 18);
        Check.budgetIs(one, 0, 19, 4, 2, 200, 8);
        one.read(0, -30);
        Check.due("three degrees, by 10000 and 3333", 3, one.budget(0, 2));
        UncertainBook two = Check.book("a+b");
        Check.readings(two, 0, 0, 20);
        Check.readings(two, 1, 0, 30, 60);
        Check.budgetIs(two, 0, 100 + 300, 20, 10000 / (25 * 25 + 75 * 75 / 2), 200, 40);
        two.shape(2, 0, 1, 99);
        Check.due("another input's doubt", 10000 / (625 + 2812), two.budget(0, 2));
        UncertainBook little = Check.book("a+50*b");
        Check.readings(little, 0, 0, 4);
        little.shape(1, 0, 3, 8);
        Check.budgetIs(little, 0, 4 + 2500 * 32, 282, -1, 200, 564);
        Check.sharesAre(little, 0, 99);
        UncertainBook most = Check.book("a+4*b");
        Check.readings(most, 0, 0, 16);
        most.shape(1, 0, 3, 28);
        Check.sharesAre(most, 1, 98);
        Check.budgetIs(most, 0, 64 + 16 * 392, 79, 10000);
        UncertainBook each = Check.book("a+b");
        Check.readings(each, 0, 0, 100, 50);
        Check.readings(each, 1, 0, 90, 60, 20);
        long first = each.contribution(0, 0, true);
        long second = each.contribution(0, 1, true);
        Check.due("each division by itself", 10000 / (first * first / 2 + second * second / 3),
                each.budget(0, 2));
    }

    private static void factors() {
        UncertainBook full = Check.book("a", "b", "c");
        Check.readings(full, 0, 0, 4);
        Check.readings(full, 1, 0, 40, 20);
        full.shape(2, 0, 1, 9);
        full.table(3, 300);
        full.table(2, 400);
        full.table(9999, 196);
        full.table(5, 250);
        Check.due("by one degree", 200, full.budget(0, 3));
        Check.due("by two degrees", 400, full.budget(1, 3));
        Check.due("by NONE", 196, full.budget(2, 3));
        full.read(1, 10);
        Check.due("by three degrees", 300, full.budget(1, 3));
        full.read(1, 30);
        Check.due("by four degrees", 300, full.budget(1, 3));
        full.read(1, 20);
        Check.due("by five degrees", 250, full.budget(1, 3));
        full.table(9999, -1);
        Check.due("by NONE without it", 250, full.budget(2, 3));
        full.table(1, -1);
        Check.due("by one degree without it", -1, full.budget(0, 3));
        Check.budgetIs(full, 0, 4, 2, 1, -1, -1);
        full.table(2, -1);
        full.table(3, -1);
        full.table(5, -1);
        Check.budgetIs(full, 2, 27, 5, -1, -1, -1);
        full.table(7, 0);
        Check.budgetIs(full, 2, 27, 5, -1, 0, 0);
    }

    private static void degreesThatAreNoneAndNot() {
        UncertainBook book = Check.book("a+b");
        Check.readings(book, 0, 0, 20);
        book.shape(1, 0, 0, 0);
        book.together(0, 1, -45);
        Check.sharesAre(book, 1000, 0);
        Check.budgetIs(book, 0, 10, 3, 0, -1, -1);
        book.together(0, 1, -50);
        Check.budgetIs(book, 0, 0, 0, -1, 200, 0);
    }

    private static void statedDoubts() {
        UncertainBook book = Check.book("a*3");
        book.shape(0, 0, 3, 6);
        int[] factors = {0, 1, 7, 8, 99, 100, 101, 196, 999};
        for (int factor : factors) {
            book.table(1, factor);
            Check.budgetIs(book, 0, 162, 12, -1, factor, 12 * factor / 100);
        }
        UncertainBook great = Check.book("2^4*2^4*2^4*2^4*2^4*2^4*2^4*2^2*a");
        great.table(1, 999);
        great.shape(0, 0, 3, 2);
        Check.due("a great one", 1518500249L * 999 / 100, great.budget(0, 4));
    }

    private static void tables() {
        UncertainBook book = Check.book("a");
        Check.due("told anew", 1, book.table(1, 300));
        Check.due("its factor", 300, book.budget(0, 3));
        Check.due("another one", 2, book.table(9999, 999));
        Check.due("none there any more", 1, book.table(1, -1));
        Check.due("none there at all", 1, book.table(1, -1));
        Check.due("nor there", 1, book.table(5000, -1));
        Check.due("the last one gone", 0, book.table(9999, -1));
        Check.due("and once more", 0, book.table(9999, -1));
        Check.due("a factor of 0", 1, book.table(9999, 0));
        for (int k = 2; k <= 12; k++) {
            Check.due("the factor " + k, k, book.table(1000 - k, 10 * k));
        }
        Check.state("a thirteenth", book, () -> book.table(1, 1));
        Check.due("one of them anew", 12, book.table(998, 5));
        Check.due("the first anew", 12, book.table(9999, 17));
        Check.due("the last anew", 12, book.table(988, 18));
        Check.due("none of no such one", 12, book.table(1, -1));
        Check.due("by the greatest", 17, book.budget(0, 3));
        Check.due("one less", 11, book.table(9999, -1));
        Check.due("by the greatest then", 5, book.budget(0, 3));
        Check.due("one more", 12, book.table(1, 50));
        Check.state("a thirteenth again", book, () -> book.table(2, 0));
    }

    private static void tableRefused() {
        UncertainBook book = Check.book("a");
        int[] wrongDegrees = {0, -1, 10000, Integer.MIN_VALUE, Integer.MAX_VALUE};
        int[] wrongFactors = {-2, 1000, Integer.MIN_VALUE, Integer.MAX_VALUE};
        for (int round = 0; round < 2; round++) {
            for (int degrees : wrongDegrees) {
                Check.argument("degrees " + degrees, book, () -> book.table(degrees, 1));
                Check.argument("none there", book, () -> book.table(degrees, -1));
            }
            for (int factor : wrongFactors) {
                Check.argument("factor " + factor, book, () -> book.table(1, factor));
                Check.argument("factor " + factor, book, () -> book.table(50, factor));
            }
            for (int degrees = 2; degrees <= 12; degrees++) {
                book.table(degrees, 100);
            }
        }
    }

    private static void questionsRefused() {
        UncertainBook book = Check.book("a+b", "c");
        for (int model : new int[] {-1, 2, 8, 9, Integer.MIN_VALUE, Integer.MAX_VALUE}) {
            Check.place("budget(" + model + ")", book, () -> book.budget(model, 0));
            Check.place("budget(" + model + ", 5)", book, () -> book.budget(model, 5));
            Check.place("contribution(" + model + ")", book,
                    () -> book.contribution(model, 0, false));
            Check.place("ranked(" + model + ")", book, () -> book.ranked(model, 0));
            Check.place("ranked(" + model + ", 9)", book, () -> book.ranked(model, 9));
        }
        for (int input : new int[] {-1, 6, Integer.MIN_VALUE, Integer.MAX_VALUE}) {
            Check.place("contribution of " + input, book,
                    () -> book.contribution(0, input, false));
            Check.place("the share of " + input, book, () -> book.contribution(1, input, true));
        }
        Check.argument("budget(0, -1)", book, () -> book.budget(0, -1));
        Check.argument("budget(0, 5)", book, () -> book.budget(0, 5));
        Check.place("ranked(0, -1)", book, () -> book.ranked(0, -1));
        Check.place("ranked(0, MIN)", book, () -> book.ranked(0, Integer.MIN_VALUE));
    }
}
