/** Promises 1 to 6: a new object, shape, read, unit, together, input. */
final class InputTests {
    private InputTests() {
    }

    public static void main(String[] args) {
        aNewObject();
        shapes();
        shapesRefused();
        readings();
        readingsRefused();
        units();
        unitsRefused();
        covariances();
        covariancesRefused();
        numbers();
        Check.end();
    }

    private static void aNewObject() {
        UncertainBook book = new UncertainBook();
        for (int input = 0; input < 6; input++) {
            Check.inputIs(book, input, 0, 0, 0, 0, 0);
            for (int other = 0; other < 6; other++) {
                if (other != input) {
                    Check.due("together at first", 0, book.together(input, other, 0));
                }
            }
        }
        Check.place("value(0) at first", book, () -> book.value(0));
        Check.place("model(1) at first", book, () -> book.model(1));
        Check.due("the line at first", 0, book.type(0));
        Check.due("x at first", 1, book.seed(1));
        Check.due("the table at first", 1, book.table(9999, -1));
        UncertainBook units = Check.book("a", "b", "c", "d", "e", "f", "a+1");
        for (int model = 0; model < 6; model++) {
            Check.due("the first exponent at first", 0, units.unitOf(model, false));
            Check.due("the second exponent at first", 0, units.unitOf(model, true));
        }
        Check.due("the factor at first", 200, units.budget(0, 3));
        UncertainBook other = new UncertainBook();
        other.shape(0, 9, 1, 9);
        Check.due("another object's input", 0, new UncertainBook().input(0, 0));
    }

    private static void shapes() {
        UncertainBook book = new UncertainBook();
        int[] widths = {0, 1, 2, 3, 5, 7, 98, 99};
        int[] even = {0, 0, 1, 3, 8, 16, 3201, 3267};
        int[] peak = {0, 0, 0, 1, 4, 8, 1600, 1633};
        int[] ends = {0, 0, 2, 4, 12, 24, 4802, 4900};
        for (int k = 0; k < widths.length; k++) {
            Check.due("EVEN " + widths[k], even[k], book.shape(0, 999, 1, widths[k]));
            Check.inputIs(book, 0, 999, even[k], 1, 0, widths[k]);
            Check.due("PEAK " + widths[k], peak[k], book.shape(3, -999, 2, widths[k]));
            Check.inputIs(book, 3, -999, peak[k], 2, 0, widths[k]);
            Check.due("ENDS " + widths[k], ends[k], book.shape(5, -1, 3, widths[k]));
            Check.inputIs(book, 5, -1, ends[k], 3, 0, widths[k]);
        }
        Check.due("sort 0", 0, book.shape(5, 12, 0, 0));
        Check.inputIs(book, 5, 12, 0, 0, 0, 0);
        Check.inputIs(book, 0, 999, 3267, 1, 0, 99);
        Check.inputIs(book, 1, 0, 0, 0, 0, 0);
    }

    private static void shapesRefused() {
        UncertainBook book = Check.book("a+b*c");
        book.read(0, 5);
        book.shape(1, 7, 1, 9);
        Check.place("shape(-1)", book, () -> book.shape(-1, 0, 0, 0));
        Check.place("shape(6)", book, () -> book.shape(6, 0, 0, 0));
        Check.place("shape(6) and all else", book, () -> book.shape(6, 1000, 9, 100));
        Check.argument("an estimate below", book, () -> book.shape(0, -1000, 1, 1));
        Check.argument("an estimate above", book, () -> book.shape(0, 1000, 1, 1));
        Check.argument("a sort below", book, () -> book.shape(0, 0, -1, 0));
        Check.argument("READ as a shape", book, () -> book.shape(0, 0, 4, 1));
        Check.argument("a sort above", book, () -> book.shape(0, 0, 5, 1));
        Check.argument("a width below", book, () -> book.shape(1, 0, 1, -1));
        Check.argument("a width above", book, () -> book.shape(1, 0, 3, 100));
        Check.argument("a width without a sort", book, () -> book.shape(1, 0, 0, 1));
        Check.argument("a width below without a sort", book, () -> book.shape(1, 0, 0, -1));
    }

    private static void readings() {
        UncertainBook book = new UncertainBook();
        book.shape(2, 50, 1, 9);
        Check.due("one reading", 0, book.read(2, 7));
        Check.inputIs(book, 2, 7, 0, 4, 0, 1);
        Check.due("two readings", 2, book.read(2, 10));
        Check.inputIs(book, 2, 8, 2, 4, 1, 2);
        Check.due("three readings", 0, book.read(2, 8));
        Check.inputIs(book, 2, 8, 0, 4, 2, 3);
        book.shape(2, 3, 0, 0);
        Check.inputIs(book, 2, 3, 0, 0, 0, 0);
        Check.due("a first one again", 0, book.read(2, -3));
        Check.due("a second one again", 0, book.read(2, -4));
        Check.inputIs(book, 2, -4, 0, 4, 1, 2);
        UncertainBook wide = new UncertainBook();
        int[] variances = {0, 998001, 443556, 332667, 239520, 199600, 162938, 142571};
        int[] estimates = {999, 0, 333, 0, 199, 0, 142, 0};
        for (int n = 1; n <= 8; n++) {
            int reading = n % 2 == 1 ? 999 : -999;
            Check.due(n + " readings", variances[n - 1], wide.read(5, reading));
            Check.inputIs(wide, 5, estimates[n - 1], variances[n - 1], 4, n - 1, n);
        }
        Check.inputIs(wide, 4, 0, 0, 0, 0, 0);
        UncertainBook near = new UncertainBook();
        for (int reading : new int[] {0, -8, -8, 2}) {
            near.read(1, reading);
        }
        Check.inputIs(near, 1, -4, 6, 4, 3, 4);
        UncertainBook below = new UncertainBook();
        for (int reading : new int[] {-1, -2, -2}) {
            below.read(0, reading);
        }
        Check.inputIs(below, 0, -2, 0, 4, 2, 3);
    }

    private static void readingsRefused() {
        UncertainBook book = Check.book("a-f");
        book.shape(1, 4, 2, 6);
        for (int k = 0; k < 8; k++) {
            book.read(0, 100 * k);
        }
        Check.state("a ninth reading", book, () -> book.read(0, 1));
        Check.argument("a ninth one out of range", book, () -> book.read(0, 1000));
        Check.argument("a reading below", book, () -> book.read(1, -1000));
        Check.place("read(-1)", book, () -> book.read(-1, 0));
        Check.place("read(6)", book, () -> book.read(6, 1000));
        Check.due("a reading after a shape", 0, book.shape(0, 0, 3, 1));
        Check.due("its first one", 0, book.read(0, -999));
        Check.inputIs(book, 0, -999, 0, 4, 0, 1);
        Check.due("another input's", 0, book.read(1, 999));
    }

    private static void units() {
        UncertainBook book = Check.book("a+b", "a*b", "b-1", "a");
        Check.due("none", 0, book.unit(2, 3, -3));
        Check.due("a+b alone", 1, book.unit(0, -3, 3));
        Check.due("both", 2, book.unit(1, 1, 0));
        Check.due("b-1 alone", 1, book.unit(1, -3, 3));
        Check.due("none again, but for b-1", 1, book.unit(0, -3, 3));
        Check.due("b-1 mended", 1, book.unit(1, 0, 0));
        Check.due("all mended", 0, book.unit(0, 0, 0));
        Check.due("the second one alone", 2, book.unit(1, 0, -1));
        Check.due("the unit of a*b", -1, book.unitOf(1, true));
        book.shape(1, 5, 1, 2);
        book.read(1, 5);
        Check.due("the unit after a shape and a reading", -1, book.unitOf(1, true));
    }

    private static void unitsRefused() {
        UncertainBook book = Check.book("a+b", "f");
        book.unit(0, 1, 2);
        Check.place("unit(-1)", book, () -> book.unit(-1, 0, 0));
        Check.place("unit(6)", book, () -> book.unit(6, 4, 4));
        Check.argument("a first one below", book, () -> book.unit(0, -4, 0));
        Check.argument("a first one above", book, () -> book.unit(0, 4, 0));
        Check.argument("a second one below", book, () -> book.unit(0, 0, -4));
        Check.argument("a second one above", book, () -> book.unit(0, 0, 4));
    }

    private static void covariances() {
        UncertainBook book = Check.book("a+b+f");
        Check.due("a first one", 0, book.together(0, 5, 9999));
        Check.due("either way", 9999, book.together(5, 0, -9999));
        Check.due("and back", -9999, book.together(0, 5, 3));
        Check.due("another two", 0, book.together(0, 1, 4));
        Check.due("the variance by both", 14, book.budget(0, 0));
        book.shape(0, 0, 0, 0);
        book.read(5, 8);
        Check.due("after a shape and a reading", 3, book.together(5, 0, 3));
    }

    private static void covariancesRefused() {
        UncertainBook book = Check.book("a+b+f");
        book.together(0, 1, 77);
        Check.place("together(-1, 0)", book, () -> book.together(-1, 0, 0));
        Check.place("together(6, 0)", book, () -> book.together(6, 0, 10000));
        Check.place("together(0, -1)", book, () -> book.together(0, -1, 0));
        Check.place("together(0, 6)", book, () -> book.together(0, 6, 0));
        Check.place("together(6, 6)", book, () -> book.together(6, 6, 0));
        Check.argument("the same", book, () -> book.together(2, 2, 0));
        Check.argument("a value below", book, () -> book.together(0, 1, -10000));
        Check.argument("a value above", book, () -> book.together(1, 0, 10000));
    }

    private static void numbers() {
        UncertainBook book = new UncertainBook();
        book.shape(4, 17, 3, 5);
        Check.inputIs(book, 4, 17, 12, 3, 0, 5);
        Check.place("input(-1, 0)", book, () -> book.input(-1, 0));
        Check.place("input(6, 5)", book, () -> book.input(6, 5));
        Check.argument("what below", book, () -> book.input(0, -1));
        Check.argument("what above", book, () -> book.input(0, 5));
    }
}
