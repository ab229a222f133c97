/** Promises 18 and 19: seed and draw. */
final class DrawTests {
    private DrawTests() {
    }

    public static void main(String[] args) {
        seeds();
        chanceWanted();
        evenDraws();
        peakDraws();
        endsDraws();
        endsAtTheStatedDoubt();
        ofTheModelTold();
        readDraws();
        byRisingNumbers();
        fromASquareThatFalls();
        withoutAStatedDoubt();
        drawsRefused();
        Check.end();
    }

    private static void seeds() {
        UncertainBook book = new UncertainBook();
        Check.due("at first", 1, book.seed(0));
        Check.due("the least", 0, book.seed(65536));
        Check.due("the most", 65536, book.seed(5));
        for (int x : new int[] {-1, 65537, Integer.MIN_VALUE, Integer.MAX_VALUE}) {
            Check.argument("seed(" + x + ")", book, () -> book.seed(x));
        }
        Check.due("as it was", 5, book.seed(5));
    }

    private static void chanceWanted() {
        UncertainBook book = Check.book("a", "7");
        book.draw(0, 100);
        Check.due("x where nothing is wanted", 1, book.seed(1));
        int[] times = {1, 2, 1, 1};
        int all = 0;
        for (int sort = 1; sort <= 4; sort++) {
            if (sort == 4) {
                book.read(4, 9);
            } else {
                book.shape(sort, 0, sort, 0);
            }
            all += times[sort - 1];
            book.seed(65536);
            Check.due("all hit", 3, book.draw(1, 3));
            Check.due("x after sorts up to " + sort, Wanted.after(65536, 3 * all), book.seed(0));
        }
        book.shape(2, 0, 0, 0);
        book.seed(7);
        book.draw(0, 100);
        Check.due("x with one sort less", Wanted.after(7, 100 * (all - 2)), book.seed(0));
    }

    /** A book of one model that stands for one input, with a stated doubt of so much. */
    private static UncertainBook stating(int factor) {
        UncertainBook book = Check.book("a-3");
        book.table(1, factor);
        return book;
    }

    private static void evenDraws() {
        for (int factor : new int[] {0, 20, 40, 100, 120}) {
            UncertainBook book = stating(factor);
            book.shape(0, -20, 1, 9);
            long stated = 5 * factor / 100;
            Check.due("the stated doubt", stated, book.budget(0, 4));
            for (int seed = 0; seed < 40; seed++) {
                book.seed(seed * 1601);
                int x = seed * 1601;
                int due = 0;
                for (int k = 0; k < 25; k++) {
                    x = Wanted.next(x);
                    due += Math.abs(-9 + x % 19) <= stated ? 1 : 0;
                }
                Check.due("EVEN draws", due, book.draw(0, 25));
            }
        }
    }

    private static void peakDraws() {
        for (int factor : new int[] {0, 50, 100, 150}) {
            UncertainBook book = stating(factor);
            book.shape(0, 7, 2, 10);
            long stated = 4 * factor / 100;
            Check.due("the stated doubt", stated, book.budget(0, 4));
            int x = 1;
            for (int draws = 1; draws <= 100; draws++) {
                int due = 0;
                for (int k = 0; k < draws; k++) {
                    int once = Wanted.next(x);
                    x = Wanted.next(once);
                    due += Math.abs(-10 + once % 11 + x % 11) <= stated ? 1 : 0;
                }
                Check.due("PEAK draws", due, book.draw(0, draws));
            }
            Check.due("x then", x, book.seed(0));
        }
    }

    private static void endsDraws() {
        UncertainBook book = Check.book("3*a+a*a");
        book.shape(0, 2, 3, 5);
        book.table(1, 180);
        Check.due("the stated doubt", 24 * 180 / 100, book.budget(0, 4));
        for (int x = 0; x < 60; x++) {
            book.seed(x);
            int below = 3 * -3 + 9 - 10;
            int above = 3 * 7 + 49 - 10;
            int off = Wanted.next(x) % 2 == 0 ? below : above;
            Check.due("ENDS from " + x, Math.abs(off) <= 43 ? 1 : 0, book.draw(0, 1));
        }
    }

    private static void endsAtTheStatedDoubt() {
        UncertainBook book = Check.book("a-3", "5-a");
        book.shape(0, -7, 3, 10);
        book.table(1, 143);
        Check.due("all hit that are just as far", 100, book.draw(0, 100));
        Check.due("the other way round too", 100, book.draw(1, 100));
        book.table(1, 142);
        Check.due("none hits that is farther", 0, book.draw(0, 100));
        Check.due("nor the other way round", 0, book.draw(1, 100));
    }

    /** What was reckoned for another model, or before a change, does not count. */
    private static void ofTheModelTold() {
        UncertainBook book = Check.book("a", "100*a", "b");
        book.shape(0, 0, 3, 10);
        Check.due("a stated doubt", 14, book.budget(0, 4));
        Check.due("a greater one", 1414, book.budget(1, 4));
        Check.due("of the first one", 20, book.draw(0, 20));
        Check.due("of the second one", 20, book.draw(1, 20));
        Check.due("of the third one", 0, book.budget(2, 4));
        Check.due("of the first one again", 20, book.draw(0, 20));
        book.shape(0, 0, 3, 0);
        Check.due("of it without a width", 20, book.draw(0, 20));
        book.shape(0, 0, 3, 20);
        Check.due("of it with a greater one", 20, book.draw(0, 20));
    }

    private static void readDraws() {
        int[] readings = {4, 40, -7, 12, 12, -30, 999, 1};
        for (int n = 1; n <= 8; n++) {
            UncertainBook book = stating(30);
            for (int k = 0; k < n; k++) {
                book.read(0, readings[k]);
            }
            long stated = book.budget(0, 4);
            int estimate = book.input(0, 0);
            for (int x = 0; x < 40; x++) {
                book.seed(x);
                int off = readings[Wanted.next(x) % n] - estimate;
                Check.due(n + " readings from " + x, Math.abs(off) <= stated ? 1 : 0,
                        book.draw(0, 1));
            }
        }
    }

    private static void byRisingNumbers() {
        UncertainBook book = Check.book("a-b*f");
        book.shape(5, 3, 1, 4);
        book.shape(1, 10, 2, 6);
        book.shape(0, 1, 1, 8);
        book.shape(3, 0, 3, 9);
        book.table(1, 60);
        long stated = book.budget(0, 4);
        int x = 1;
        int due = 0;
        for (int k = 0; k < 100; k++) {
            x = Wanted.next(x);
            int a = 1 - 8 + x % 17;
            x = Wanted.next(x);
            int b = 10 - 6 + x % 7;
            x = Wanted.next(x);
            b += x % 7;
            x = Wanted.next(Wanted.next(x));
            int f = 3 - 4 + x % 9;
            due += Math.abs(a - b * f - (1 - 30)) <= stated ? 1 : 0;
        }
        Check.due("draws of three inputs and one more", due, book.draw(0, 100));
        Check.due("x then", x, book.seed(1));
        Check.due("whether some hit and some do not", 1, due > 10 && due < 90 ? 1 : 0);
    }

    /** Off by -1 and by nothing else: the doubt is 0, so that only the same value hits. */
    private static void fromASquareThatFalls() {
        UncertainBook book = Check.book("a*a");
        book.shape(0, 0, 3, 9);
        Check.due("the stated doubt", 0, book.budget(0, 4));
        Check.due("none hits", 0, book.draw(0, 50));
        book.shape(0, 0, 3, 0);
        Check.due("all hit", 50, book.draw(0, 50));
    }

    private static void withoutAStatedDoubt() {
        UncertainBook book = Check.book("a+b");
        book.shape(0, 0, 1, 0);
        book.table(1, -1);
        Check.due("none without a factor", 0, book.draw(0, 10));
        Check.due("but they are made", Wanted.after(1, 10), book.seed(1));
        book.table(1, 999);
        Check.due("all with one", 10, book.draw(0, 10));
        book.together(0, 1, -1);
        Check.due("no doubt", -1, book.budget(0, 1));
        book.seed(1);
        Check.due("none without a doubt", 0, book.draw(0, 10));
        Check.due("but these are made too", Wanted.after(1, 10), book.seed(1));
    }

    private static void drawsRefused() {
        UncertainBook book = Check.book("a", "b");
        book.shape(0, 5, 1, 9);
        Check.place("draw(-1, 1)", book, () -> book.draw(-1, 1));
        Check.place("draw(2, 1)", book, () -> book.draw(2, 1));
        Check.place("draw(8, 0)", book, () -> book.draw(8, 0));
        Check.place("draw(MAX, 1)", book, () -> book.draw(Integer.MAX_VALUE, 1));
        for (int draws : new int[] {0, -1, 101, Integer.MIN_VALUE, Integer.MAX_VALUE}) {
            Check.argument("draw(0, " + draws + ")", book, () -> book.draw(0, draws));
        }
        Check.due("one", 1, book.draw(1, 1));
        Check.due("a hundred", 100, book.draw(1, 100));
    }
}
