/**
 * Promises 18 and 19 at their edges, and what is said of all calls: a test for each sentence
 * of the document that names one. What stands in quotes above a test is that sentence.
 */
final class DrawBoundaryTests {
    private DrawBoundaryTests() {
    }

    public static void main(String[] args) {
        seedsFromZeroTo65536();
        chanceAtItsEnds();
        chanceIsNotWantedByTheSortZero();
        chanceIsWantedWhateverTheWidth();
        chanceIsWantedWhetherTheModelHasTheInput();
        valuesOfEven();
        valuesOfPeak();
        valuesOfEnds();
        valuesOfRead();
        aWidthOfZero();
        notBelowAndNotAbove();
        differencesGoRound();
        withoutADoubtTheyAreMade();
        withoutAFactorTheyAreMade();
        drawsFromOneToAHundred();
        drawsChangeNothingElse();
        modelsOfDraws();
        firstExceptionOfDraw();
        usedForItsCalls();
        Check.end();
    }

    /** The draw from a seed is off by so much in model 0, and by less it in model 1. */
    private static void drawnIs(UncertainBook book, int seed, long off) {
        long stated = book.budget(0, 4);
        int due = Math.abs(off) <= stated ? 1 : 0;
        for (int model = 0; model < 2; model++) {
            book.seed(seed);
            Check.due("draw(" + model + ", 1) from " + seed + ", off by " + off, due,
                    book.draw(model, 1));
        }
    }

    /** "x: 0 to 65536", "Returns what it was." */
    private static void seedsFromZeroTo65536() {
        UncertainBook book = new UncertainBook();
        Check.due("x at first", 1, book.seed(0));
        for (int x : new int[] {-1, 65537, 65538, Integer.MIN_VALUE, Integer.MAX_VALUE}) {
            Check.argument("seed(" + x + ")", book, () -> book.seed(x));
        }
        Check.due("the least", 0, book.seed(65536));
        Check.due("the greatest", 65536, book.seed(1));
        Check.due("as it was", 1, book.seed(1));
    }

    /** "x .. becomes 75 x and 74, together, modulo 65537". */
    private static void chanceAtItsEnds() {
        UncertainBook book = Check.book("a");
        book.shape(0, 0, 3, 0);
        int[] seeds = {0, 1, 65536, 65535, 873, 872, Wanted.before(0), Wanted.before(65535)};
        int[] due = {74, 149, 65536, 65461, Wanted.next(873), 65474, 0, 65535};
        for (int k = 0; k < seeds.length; k++) {
            book.seed(seeds[k]);
            book.draw(0, 1);
            Check.due("x behind " + seeds[k], due[k], book.seed(0));
        }
        book.seed(65536);
        book.draw(0, 100);
        Check.due("x that stays", 65536, book.seed(0));
    }

    /** "In a draw each input of which the sort is not 0". */
    private static void chanceIsNotWantedByTheSortZero() {
        UncertainBook book = Check.book("a+b+c+d+e+f");
        book.shape(0, 5, 3, 9);
        book.shape(0, 5, 0, 0);
        book.read(5, 7);
        book.shape(5, 7, 0, 0);
        Check.due("all hit", 100, book.draw(0, 100));
        Check.due("x as it was", 1, book.seed(1));
    }

    /** "whatever its width": once for EVEN, twice for PEAK, once for ENDS, once for READ. */
    private static void chanceIsWantedWhateverTheWidth() {
        int[] times = {1, 2, 1};
        for (int input = 0; input < 6; input++) {
            for (int sort = 1; sort <= 3; sort++) {
                for (int width : new int[] {0, 1, 99}) {
                    UncertainBook book = Check.book("7");
                    book.shape(input, 999, sort, width);
                    Check.due("all hit", 50, book.draw(0, 50));
                    Check.due("x then", Wanted.after(1, 50 * times[sort - 1]), book.seed(0));
                }
            }
            UncertainBook book = Check.book("7");
            for (int n = 1; n <= 8; n++) {
                book.read(input, 100 * n);
                book.seed(1);
                Check.due("all hit", 50, book.draw(0, 50));
                Check.due("x then", Wanted.after(1, 50), book.seed(0));
            }
        }
    }

    /** "and whether the model has it or not, gets a value, by rising numbers". */
    private static void chanceIsWantedWhetherTheModelHasTheInput() {
        UncertainBook book = Check.book("f", "0-f");
        book.shape(0, 0, 2, 5);
        book.shape(3, 0, 1, 0);
        book.read(4, 1);
        book.shape(5, 0, 1, 9);
        for (int factor = 0; factor < 200; factor += 20) {
            book.table(1, factor);
            for (int seed = 0; seed < 20; seed++) {
                drawnIs(book, seed, -9 + Wanted.after(seed, 5) % 19);
            }
        }
        book.seed(9);
        book.draw(0, 1);
        Check.due("x then", Wanted.after(9, 5), book.seed(0));
    }

    /** A model of one input, and the same the other way round, with a stated doubt for both. */
    private static UncertainBook bookOfOne(int sort, int width, int factor) {
        UncertainBook book = Check.book("a", "0-a");
        book.shape(0, -30, sort, width);
        book.table(1, factor);
        return book;
    }

    /** "EVEN: the estimate less w, and x modulo 2 w and 1", from one end to the other. */
    private static void valuesOfEven() {
        for (int factor : new int[] {100, 171, 172, 175, 999}) {
            UncertainBook book = bookOfOne(1, 99, factor);
            for (int x : new int[] {0, 1, 2, 98, 99, 100, 196, 197, 198, 199, 65535, 65536}) {
                drawnIs(book, Wanted.before(x), -99 + x % 199);
            }
        }
        UncertainBook narrow = bookOfOne(1, 1, 999);
        Check.due("a variance of 0", 0, narrow.budget(0, 4));
        for (int x = 0; x < 6; x++) {
            drawnIs(narrow, Wanted.before(x), -1 + x % 3);
        }
    }

    /** "PEAK: the estimate less w, and x modulo w and 1, twice". */
    private static void valuesOfPeak() {
        for (int factor : new int[] {50, 100, 175, 249, 250, 999}) {
            UncertainBook book = bookOfOne(2, 10, factor);
            for (int x = 0; x < 44; x++) {
                drawnIs(book, Wanted.before(x), -10 + x % 11 + Wanted.next(x) % 11);
            }
            drawnIs(book, 65536, -10 + 2 * (65536 % 11));
        }
        UncertainBook narrow = bookOfOne(2, 1, 999);
        for (int x = 0; x < 8; x++) {
            drawnIs(narrow, Wanted.before(x), -1 + x % 2 + Wanted.next(x) % 2);
        }
    }

    /** "ENDS: less w if x is even, otherwise more by w": by the x that has become. */
    private static void valuesOfEnds() {
        UncertainBook book = Check.book("a*a", "0-a*a");
        book.shape(0, 1, 3, 2);
        book.table(1, 200);
        Check.budgetIs(book, 0, 8, 2, -1, 200, 4);
        for (int x : new int[] {0, 1, 2, 3, 65534, 65535, 65536}) {
            drawnIs(book, Wanted.before(x), x % 2 == 0 ? 0 : 8);
        }
        book.shape(0, -1, 3, 2);
        for (int x : new int[] {0, 1, 2, 3, 65534, 65535, 65536}) {
            drawnIs(book, Wanted.before(x), x % 2 == 0 ? 8 : 0);
        }
        UncertainBook wide = Check.book("a", "0-a");
        wide.shape(0, 0, 3, 99);
        wide.table(1, 141);
        Check.due("stated, one less than the width", 98, wide.budget(0, 4));
        Check.due("none hits", 0, wide.draw(0, 100));
        wide.table(1, 142);
        Check.due("stated, as the width", 99, wide.budget(0, 4));
        Check.due("all hit", 100, wide.draw(0, 100));
    }

    /** "READ: the reading with the number x modulo n", of one up to eight. */
    private static void valuesOfRead() {
        int[] readings = {0, 50, -50, 20, -20, 999, -999, 1};
        for (int factor : new int[] {0, 20, 100}) {
            UncertainBook book = Check.book("a", "0-a");
            book.table(1, factor);
            for (int n = 1; n <= 8; n++) {
                book.read(0, readings[n - 1]);
                int estimate = book.input(0, 0);
                for (int x = 0; x < n + 1; x++) {
                    drawnIs(book, Wanted.before(x), readings[x % n] - estimate);
                }
                drawnIs(book, 65536, readings[65536 % n] - estimate);
            }
        }
        UncertainBook one = Check.book("a");
        one.read(0, -999);
        Check.due("all hit with one reading", 100, one.draw(0, 100));
    }

    /** By a width of 0 each value is the estimate, even by a stated doubt of 0. */
    private static void aWidthOfZero() {
        for (int sort = 1; sort <= 3; sort++) {
            for (int estimate : new int[] {-999, 0, 999}) {
                UncertainBook book = Check.book("a^3");
                book.shape(0, estimate, sort, 0);
                book.table(1, 0);
                Check.due("all hit", 100, book.draw(0, 100));
            }
        }
    }

    /** "is not below less the stated doubt, and not above it". */
    private static void notBelowAndNotAbove() {
        UncertainBook book = Check.book("a", "0-a", "a^2", "0-a^2");
        book.shape(0, 0, 3, 2);
        int[] factors = {0, 99, 199, 200, 201, 299, 300, 999};
        for (int factor : factors) {
            book.table(1, factor);
            long stated = factor / 100;
            Check.budgetIs(book, 0, 2, 1, -1, factor, stated);
            int due = stated >= 2 ? 20 : 0;
            Check.due("below and above by 2", due, book.draw(0, 20));
            Check.due("the other way round", due, book.draw(1, 20));
            Check.due("above by 4 alone", 0, book.draw(2, 20));
            Check.due("below by 4 alone", 0, book.draw(3, 20));
        }
        UncertainBook square = Check.book("a^2+b", "b-a^2");
        square.shape(0, 0, 3, 2);
        square.read(1, -2);
        square.read(1, 2);
        square.read(1, 0);
        for (int factor : new int[] {199, 200, 399, 400, 599, 600, 0}) {
            square.table(1, factor);
            long stated = factor / 100;
            Check.due("stated", stated, square.budget(0, 4));
            for (int seed = 0; seed < 12; seed++) {
                int reading = Wanted.next(Wanted.next(seed)) % 3;
                int b = reading == 0 ? -2 : reading == 1 ? 2 : 0;
                square.seed(seed);
                Check.due("above by 4 and b", Math.abs(4 + b) <= stated ? 1 : 0,
                        square.draw(0, 1));
                square.seed(seed);
                Check.due("below by 4 and b", Math.abs(b - 4) <= stated ? 1 : 0,
                        square.draw(1, 1));
            }
        }
    }

    /** "the value of the model by these, less that by the estimates", of longs that go round. */
    private static void differencesGoRound() {
        String great = "((2^4)^4)^3*2^4*2^4*2^4";
        UncertainBook book = Check.book("(" + great + "*2^3-1)*a^2", great + "*2^3*a");
        book.shape(0, 0, 3, 1);
        Check.budgetIs(book, 0, 0, 0, -1, 200, 0);
        Check.due("off by the greatest long", 0, book.draw(0, 20));
        Check.due("off by the least long, either way", 0, book.draw(1, 20));
        book.shape(0, 0, 3, 2);
        Check.due("off by 0", 20, book.draw(1, 20));
        Check.due("off by -4", 0, book.draw(0, 20));
        UncertainBook across = Check.book(great + "*2^3-1+a", "0-" + great + "*2^3+a");
        across.shape(0, 0, 3, 2);
        Check.budgetIs(across, 0, 2, 1, -1, 200, 2);
        Check.due("the value by the estimates", Long.MAX_VALUE, across.value(0));
        Check.due("all hit across the greatest long", 50, across.draw(0, 50));
        Check.due("all hit across the least long", 50, across.draw(1, 50));
    }

    /** "none do, if there is no stated doubt, but they are made": off by -1, 0 and 1 too. */
    private static void withoutADoubtTheyAreMade() {
        UncertainBook book = Check.book("a+b");
        book.shape(0, 0, 1, 1);
        book.together(0, 1, -1);
        Check.budgetIs(book, 0, -2, -1, -1, 200, -1);
        for (int draws = 1; draws <= 100; draws += 33) {
            book.seed(1);
            Check.due("none of " + draws, 0, book.draw(0, draws));
            Check.due("x then", Wanted.after(1, draws), book.seed(1));
        }
    }

    /** The same without a factor. */
    private static void withoutAFactorTheyAreMade() {
        UncertainBook book = Check.book("a");
        book.shape(0, 0, 2, 1);
        book.table(1, -1);
        Check.budgetIs(book, 0, 0, 0, -1, -1, -1);
        for (int draws = 1; draws <= 100; draws += 33) {
            book.seed(65535);
            Check.due("none of " + draws, 0, book.draw(0, draws));
            Check.due("x then", Wanted.after(65535, 2 * draws), book.seed(1));
        }
    }

    /** "draws: 1 to 100". */
    private static void drawsFromOneToAHundred() {
        UncertainBook book = Check.book("a");
        book.shape(0, 0, 1, 5);
        for (int draws : new int[] {0, -1, 101, 102, Integer.MIN_VALUE, Integer.MAX_VALUE}) {
            Check.argument("draw(0, " + draws + ")", book, () -> book.draw(0, draws));
        }
        Check.budgetIs(book, 0, 8, 2, -1, 200, 4);
        int all = 0;
        for (int k = 1; k <= 100; k++) {
            all += Math.abs(-5 + Wanted.after(1, k) % 11) <= 4 ? 1 : 0;
        }
        Check.due("a hundred", all, book.draw(0, 100));
        Check.due("x then", Wanted.after(1, 100), book.seed(1));
        int one = 0;
        for (int k = 1; k <= 100; k++) {
            one += book.draw(0, 1);
        }
        Check.due("one, a hundred times", all, one);
        Check.due("x then", Wanted.after(1, 100), book.seed(1));
    }

    /** A draw is no telling: all but x is as it was. */
    private static void drawsChangeNothingElse() {
        UncertainBook book = Check.book("a*b+c", "d^2-e*f");
        for (int input = 0; input < 5; input++) {
            book.shape(input, 10 + input, 1 + input % 3, 9);
        }
        Check.readings(book, 5, 3, 8, -6);
        book.together(0, 1, 3);
        book.seed(1);
        String before = State.of(book);
        for (int model = 0; model < 2; model++) {
            book.draw(model, 100);
        }
        book.seed(1);
        Check.same("the book behind its draws", before, State.of(book));
    }

    /** "there is no such .. model". */
    private static void modelsOfDraws() {
        UncertainBook book = new UncertainBook();
        book.shape(0, 0, 1, 9);
        for (int models = 0; models <= 8; models++) {
            for (int model : new int[] {models, 8, -1, Integer.MIN_VALUE, Integer.MAX_VALUE}) {
                Check.place("draw(" + model + ")", book, () -> book.draw(model, 1));
            }
            if (models < 8) {
                Check.model(book, models, "f");
                Check.due("what there is", 1, book.draw(models, 1));
            }
        }
    }

    /** "If several exceptions apply, the one that is named first": draw. */
    private static void firstExceptionOfDraw() {
        UncertainBook book = Check.book("a");
        for (int model : new int[] {1, 8, -1}) {
            Check.place("draws below", book, () -> book.draw(model, 0));
            Check.place("draws above", book, () -> book.draw(model, 101));
        }
    }

    /** "An object is used for at most 512 calls": the last one is as good as the first. */
    private static void usedForItsCalls() {
        UncertainBook book = new UncertainBook();
        for (int call = 0; call < 510; call += 2) {
            int number = call % 10;
            Check.due("type at call " + call, 1, book.type('0' + number));
            Check.due("model at call " + (call + 1), 1, book.model(call / 2 % 8));
        }
        Check.due("value at the last call but one", 508 % 10, book.value(508 / 2 % 8));
        Check.due("seed at the last call", 1, book.seed(5));
    }
}
