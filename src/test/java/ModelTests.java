import java.math.BigInteger;

/** Promises 7 to 13: type, model, disagrees, unitOf, value, sensitivity, sensitivityAnew. */
final class ModelTests {
    private ModelTests() {
    }

    public static void main(String[] args) {
        typing();
        typingRefused();
        unlikeFormulas();
        faults();
        afterAFault();
        nesting();
        tellingModels();
        modelsRefused();
        disagreements();
        disagreementsOfNow();
        exponents();
        values();
        valuesGoRound();
        sensitivities();
        sensitivitiesByDifferences();
        questionsRefused();
        Check.end();
    }

    private static void typing() {
        UncertainBook book = new UncertainBook();
        Check.due("none", 0, book.type(0));
        Check.due("one", 1, book.type(Check.signs("a")));
        Check.due("eight", 9, book.type(Check.signs("+b+c+d+e")));
        Check.due("the lowest and the highest sign", 11, book.type(Check.signs(" ~")));
        Check.due("none behind them", 11, book.type(0));
        Check.due("the blank's place", -1 - 9, book.model(0));
        Check.due("the line is empty then", 0, book.type(0));
        book.type(Check.signs("1"));
        book.type(Check.signs("2-"));
        book.type(Check.signs("345"));
        Check.due("in their order", 3, book.model(0));
        Check.due("12-345", -333, book.value(0));
    }

    private static void typingRefused() {
        UncertainBook book = Check.book("a");
        book.type(Check.signs("a+1"));
        long[] wrong = {31, 127, 128, 255, 1, 256, 0x6100L, 0x620061L, 0x1F61L, 0x7F61L,
            0x8061616161616161L, 0xFF61616161616161L, 0x6100000000000000L, -1L,
            Long.MIN_VALUE, 0x6161610061616161L, 0x0100000000000061L};
        for (long signs : wrong) {
            Check.argument("type(" + signs + ")", book, () -> book.type(signs));
        }
        Check.due("the line as it was", 3, book.model(0));
        for (int k = 0; k < 7; k++) {
            book.type(Check.signs("1+1+1+1+"));
        }
        Check.state("a sign too many", book, () -> book.type(Check.signs("11111")));
        Check.state("eight too many", book, () -> book.type(Check.signs("11111111")));
        Check.argument("too many and a wrong one", book, () -> book.type(0x1F61616161616161L));
        Check.due("the last ones", 60, book.type(Check.signs("1+11")));
        Check.due("none more", 60, book.type(0));
        Check.state("one more", book, () -> book.type(Check.signs("1")));
        Check.argument("one more, out of range", book, () -> book.type(127));
        Check.due("all 60 are read", 31, book.model(0));
        Check.due("and are empty then", 0, book.type(0));
        Check.due("by their sum", 40, book.value(0));
    }

    private static void unlikeFormulas() {
        Object[] counts = {"a", 1, "7", 1, "7+07+0007", 3, "a+b", 3, "b+a+(a+b)", 5, "a+a", 2,
            "(((a)))", 1, "a^1", 2, "a^0", 2, "a^2*a^2", 3, "a^2*a^3", 4, "a^2+2", 4, "-a", 2,
            "--a", 3, "a-b-(a-b)", 4, "a+b+c", 5, "a+(b+c)", 5, "a+b+c+(a+(b+c))", 8,
            "a*b+b*a", 5, "a-b+(a+-b)", 6, "-a^2^3", 4, "-1", 2, "a*b-a*b", 4, "(a)+((a))", 2,
            "a-a+(a+a)", 4, "a*a+(a+a)", 4, "a^2+b^2", 5, "1^1+a^1", 5, "a-b+(b-a)", 5,
            "-(a)+-a", 3, "0+00", 2, "1+10", 3, "a*b*c+a*(b*c)", 8, "-a*b", 4, "-(a*b)", 4,
            "a+1-(a+2)", 6, "a^2-a*a", 4, "a+b+c+d+e+f", 11, "0+a", 3, "5+f", 3};
        for (int k = 0; k < counts.length; k += 2) {
            UncertainBook book = new UncertainBook();
            Check.due("model of " + counts[k], (Integer) counts[k + 1],
                    Check.model(book, 0, (String) counts[k]));
        }
        Check.due("a long sum", 31, Check.model(new UncertainBook(), 0, "12" + "+a".repeat(29)));
    }

    private static void faults() {
        Object[] faults = {"", 0, "+", 0, "a+", 2, "a++b", 2, "a+*b", 2, "*a", 0, "a**b", 2,
            "^2", 0, "a^", 2, "a^5", 2, "a^9", 2, "a^a", 2, "a^-1", 2, "a^(2)", 2, "a^2^2", 3,
            "a^12", 3, "a^2a", 3, "(a", 2, "(a+b", 4, "(a*", 3, "()", 1, "(+a)", 1, "a)", 1,
            "(a))", 3, "ab", 1, "a1", 1, "1a", 1, "12345", 4, "a+12345", 6, "(12345)", 5, "g", 0,
            "A", 0, "`", 0, " ", 0, " a", 0, "a ", 1, "a b", 1, "a/b", 1, "a,", 1, "a.", 1,
            "1/", 1, ":", 0, "a:", 1, "a^/", 2, "a(b)", 1, "(a)(b)", 3, "(a)b", 3, "(a)1", 3,
            "-", 1, "a-", 2, "a--", 3, "--", 2, "-+a", 1, "-*a", 1, "-)", 1, "-^2", 1, "(^2)", 1,
            "--------a", 7, "((((((((a))))))))", 7, "-(-(-(-(a))))", 7, "(-(-(-(-a))))", 7,
            "-------(a)", 7, "(((((((-a)))))))", 7, "-(-(-(-a))))", 11, "((((((((", 7,
            "(((((((", 7, "-------", 7, "-a^2^3^4", 6, "(-a^2)^2^2", 8, "-(a)^2^2^2", 8,
            "(-(a)^2^2^2)", 9, "-1^2^2^2", 6, "a---------b", 9, "-a*--------b", 10,
            "(a)*((((((((b", 11, "-a^2^", 5, "-a^2^5", 5, "a*b^", 4, "a+b^2^2", 5, "a*b^2^2", 5,
            "-a*b^2^2", 6, "-a+b^2^2", 6, "-(a+b^2^2)", 7, "a)^2", 1, "a+(b-c))*d", 7,
            "a+(b-(c)*d", 10, "99999", 4, "a^2^", 3, "a^22", 3};
        for (int k = 0; k < faults.length; k += 2) {
            UncertainBook book = new UncertainBook();
            Check.due("model of " + faults[k], -1 - (Integer) faults[k + 1],
                    Check.model(book, 0, (String) faults[k]));
            Check.place("the model of " + faults[k], book, () -> book.value(0));
            Check.due("the line behind " + faults[k], 0, book.type(0));
        }
        Check.due("missing behind 60 signs", -61,
                Check.model(new UncertainBook(), 0, "1" + "+a".repeat(29) + "*"));
    }

    private static void afterAFault() {
        UncertainBook book = Check.book("a*b+1", "c");
        book.shape(0, 3, 1, 5);
        book.shape(1, 4, 2, 7);
        String before = State.of(book);
        Check.due("a FAULT", -4, Check.model(book, 0, "c-d"+ ")"));
        Check.due("another one at the end", -5, Check.model(book, 1, "c^2+"));
        Check.due("one for a new model", -1, Check.model(book, 2, ""));
        Check.same("the book after them", before, State.of(book));
        Check.due("a model told anew", 4, Check.model(book, 0, "a^2*a^3"));
        Check.due("its value", 243, book.value(0));
        Check.due("another FAULT", -1, Check.model(book, 0, "+"));
        Check.due("the value behind it", 243, book.value(0));
        Check.due("the other model", 0, book.value(1));
    }

    private static void nesting() {
        String[] sound = {"-------a", "(((((((a)))))))", "-(-(-(-a)))", "(-(-(-(a))))",
            "-a*-------b", "(a)*(((((((b)))))))", "a^2-------b", "-------a-------b",
            "(((a)))+(((((((b)))))))", "a--------b", "-------a^2^2^2^2^2^2^2^2"};
        for (String text : sound) {
            int unlike = Check.model(new UncertainBook(), 0, text);
            Check.due("whether " + text + " is read", 1, unlike > 0 ? 1 : 0);
        }
        UncertainBook book = Check.book("-------a", "(((((((a)))))))", "a--------b");
        book.shape(0, 2, 0, 0);
        book.shape(1, 5, 0, 0);
        Check.due("seven times -", -2, book.value(0));
        Check.due("seven times ()", 2, book.value(1));
        Check.due("one of two sides and seven of one", 7, book.value(2));
    }

    private static void tellingModels() {
        UncertainBook book = new UncertainBook();
        for (int model = 0; model < 8; model++) {
            Check.due("a new model", 1, Check.model(book, model, "" + (model + 10)));
        }
        for (int model = 0; model < 8; model++) {
            Check.due("its value", model + 10, book.value(model));
        }
        Check.due("the first told anew", 3, Check.model(book, 0, "a+1"));
        Check.due("the last told anew", 2, Check.model(book, 7, "-5"));
        Check.due("the third told anew", 2, Check.model(book, 3, "-6"));
        Check.due("and once more", 2, Check.model(book, 3, "-7"));
        int[] values = {1, 11, 12, -7, 14, 15, 16, -5};
        for (int model = 0; model < 8; model++) {
            Check.due("value(" + model + ")", values[model], book.value(model));
        }
    }

    private static void modelsRefused() {
        UncertainBook book = Check.book("a", "b");
        Check.type(book, "4-1");
        Check.place("model(-1)", book, () -> book.model(-1));
        Check.place("model(3) of 2", book, () -> book.model(3));
        Check.place("model(8) of 2", book, () -> book.model(8));
        Check.due("the line stays", 3, book.model(2));
        for (int model = 3; model < 8; model++) {
            Check.model(book, model, "c");
        }
        Check.type(book, "9-4");
        Check.state("a ninth model", book, () -> book.model(8));
        Check.place("a tenth model", book, () -> book.model(9));
        Check.place("model(-1) of 8", book, () -> book.model(-1));
        Check.place("model(MAX)", book, () -> book.model(Integer.MAX_VALUE));
        Check.due("the line stays again", 3, book.model(7));
        Check.due("its value", 5, book.value(7));
    }

    private static void disagreements() {
        Object[] places = {"a", -1, "a*b+b*a", -1, "a^2-a*a", -1, "a+1", 1, "1-1", -1, "c+1", -1,
            "a^0+1", -1, "a-b+c", 1, "c+(a+b)", 1, "a+(a+b)", 4, "a+(b+c)", 1, "(a+b)+(b+a)", 2,
            "(b+a)^0", 2, "(a+b)+b", 2, "(a+b)+a", 2, "a*(a+b)+a*(a+b)", 4, "-a+a", -1,
            "-a-b", 2, "a--b", 1, "(a+b)*(c+d)", 2, "(c+d)*(a+b)", 2, "(c+c)*(a+b)", 8,
            "a+a+b", 3, "a+(b)*(a+b)", 1, "a*(b+b*(a+c))", 4, "a*(b+b*(c+c-d))", 11,
            "a^1-a", -1, "(a*b)^2-a^2*b^2", -1, "(a*b)^2-a^2*b", 7, "e-a", -1, "e+b", 1,
            "e*b-a*b", -1, "e-a+b", 3, "(a)+(b)", 3, "1+2*3-4^2", -1, "a^3-a^4", 3, "f-a^3", -1};
        for (int k = 0; k < places.length; k += 2) {
            UncertainBook book = Check.book((String) places[k]);
            book.unit(0, 1, 0);
            book.unit(1, 0, 1);
            book.unit(3, 0, -2);
            book.unit(4, 1, 0);
            book.unit(5, 3, 0);
            Check.due("disagrees of " + places[k], (Integer) places[k + 1], book.disagrees(0));
        }
        UncertainBook crossed = Check.book("(a+b)*(c+d)", "(c+d)*(a+b)");
        crossed.unit(0, 0, 1);
        crossed.unit(2, 1, 0);
        Check.due("by the second, then the first", 2, crossed.disagrees(0));
        Check.due("by the first, then the second", 2, crossed.disagrees(1));
    }

    private static void disagreementsOfNow() {
        UncertainBook book = Check.book("a+b");
        Check.due("at first", -1, book.disagrees(0));
        Check.due("with another unit", 1, book.unit(1, 0, 1));
        Check.due("then", 1, book.disagrees(0));
        Check.due("its value all the same", 0, book.value(0));
        book.shape(0, 2, 1, 3);
        book.shape(1, 3, 1, 3);
        Check.due("its value by the estimates", 5, book.value(0));
        Check.due("its sensitivity", 1, book.sensitivity(0, 1));
        Check.due("its variance", 6, book.budget(0, 0));
        Check.due("the other one like it", 0, book.unit(0, 0, 1));
        Check.due("and then", -1, book.disagrees(0));
        Check.due("a model told anew", 3, Check.model(book, 0, "a+1"));
        Check.due("where it disagrees", 1, book.disagrees(0));
    }

    private static void exponents() {
        Object[] units = {"a", 1, -2, "b", 3, 2, "c", 0, 0, "7", 0, 0, "a*b", 4, 0, "-a", 1, -2,
            "a^0", 0, 0, "a^1", 1, -2, "a^2", 2, -4, "a^3", 3, -6, "a^4", 4, -8, "(a*b)^2", 8, 0,
            "a+b", 1, -2, "b-a", 3, 2, "c+a", 0, 0, "(a+b)*b", 4, 0, "(b+a)^2", 6, 4,
            "(a+b)^0*a", 1, -2, "-a^2^3", 6, -12, "((a^4)^4)^4", 64, -128, "a*a*a*a", 4, -8,
            "5*a", 1, -2, "a*5+a", 1, -2, "d*a", 0, 0, "-(a+b)", 1, -2, "c*c", 0, 0,
            "(((((((b^4)^4)^4)^4)^4)^4)^4)^4", 196608, 131072};
        for (int k = 0; k < units.length; k += 3) {
            UncertainBook book = Check.book((String) units[k]);
            book.unit(0, 1, -2);
            book.unit(1, 3, 2);
            book.unit(3, -1, 2);
            Check.due("the first of " + units[k], (Integer) units[k + 1], book.unitOf(0, false));
            Check.due("the second of " + units[k], (Integer) units[k + 2], book.unitOf(0, true));
        }
    }

    private static UncertainBook withEstimates(String text) {
        UncertainBook book = Check.book(text);
        int[] estimates = {5, -4, 8, 3, 0, 999};
        for (int input = 0; input < 6; input++) {
            book.shape(input, estimates[input], 0, 0);
        }
        return book;
    }

    private static void values() {
        Object[] values = {"a", 5, "0042", 42, "a+b*c", -27, "a*b+c", -12, "(a+b)*c", 8,
            "a-b-c", 1, "a-(b-c)", 17, "-a^2", -25, "(-a)^2", 25, "-a^2^2", 625, "-a*b", 20,
            "--a", 5, "a^0", 1, "e^0", 1, "0^0", 1, "a^1", 5, "a^4", 625, "2*a^3", 250,
            "a--b", 1, "a*-b", 20, "-a+b", -9, "-(a+b)", -1, "b^3", -64, "b^2", 16, "f*f", 998001,
            "a*b*c*d", -480, "a-b+c-d", 14, "(a-b)*(c-d)", 45, "e*f", 0, "a*(b-(c-d))", -45,
            "-a^3^3", -1953125, "--a^2^2", -625, "9999", 9999, "a+-b", 9, "a^2+b^2-c^2", -23,
            "2^3*2", 16, "2*3^2", 18, "-2^4", -16, "--2^4^3", 4096};
        for (int k = 0; k < values.length; k += 2) {
            UncertainBook book = withEstimates((String) values[k]);
            Check.due("value of " + values[k], (Integer) values[k + 1], book.value(0));
        }
        UncertainBook book = withEstimates("a*b");
        book.shape(0, 7, 1, 1);
        book.read(1, 3);
        Check.due("by the estimates of now", 21, book.value(0));
    }

    private static void valuesGoRound() {
        BigInteger big = BigInteger.valueOf(9999);
        Check.due("9999^8", big.pow(8).longValue(), withEstimates("9999^4*9999^4").value(0));
        Check.due("9999^64", big.pow(64).longValue(), withEstimates("((9999^4)^4)^4").value(0));
        Check.due("999^16 and less", BigInteger.valueOf(999).pow(16).longValue() - 5,
                withEstimates("(f^4)^4-a").value(0));
        Check.due("2^63", Long.MIN_VALUE, withEstimates("((2^4)^4)^3*2^4*2^4*2^4*2^3").value(0));
        Check.due("less 2^63", Long.MIN_VALUE,
                withEstimates("-(((2^4)^4)^3*2^4*2^4*2^4*2^3)").value(0));
    }

    private static void slopeIs(String text, int input, long due) {
        UncertainBook book = withEstimates(text);
        Check.due("sensitivity of " + text + " to " + input, due, book.sensitivity(0, input));
        Check.due("the same anew", due, book.sensitivityAnew(0, input));
    }

    private static void sensitivities() {
        slopeIs("a", 0, 1);
        slopeIs("a", 1, 0);
        slopeIs("7", 0, 0);
        slopeIs("-a", 0, -1);
        slopeIs("--a", 0, 1);
        slopeIs("a+b", 1, 1);
        slopeIs("a-b", 1, -1);
        slopeIs("a-b", 0, 1);
        slopeIs("a-a", 0, 0);
        slopeIs("a+a", 0, 2);
        slopeIs("a*a", 0, 10);
        slopeIs("a*b", 0, -4);
        slopeIs("a*b", 1, 5);
        slopeIs("a*b*c", 1, 40);
        slopeIs("a^0", 0, 0);
        slopeIs("e^0", 4, 0);
        slopeIs("a^1", 0, 1);
        slopeIs("e^1", 4, 1);
        slopeIs("e^2", 4, 0);
        slopeIs("a^2", 0, 10);
        slopeIs("a^3", 0, 75);
        slopeIs("a^4", 0, 500);
        slopeIs("b^3", 1, 48);
        slopeIs("(a+b)^2*c", 0, 16);
        slopeIs("(a+b)^2*c", 2, 1);
        slopeIs("(a-b)^3", 1, -243);
        slopeIs("-a^2", 0, -10);
        slopeIs("-a^2^3", 0, 3 * 625 * -10);
        slopeIs("(a*b+1)*(a*b+1)", 0, 2 * -19 * -4);
        slopeIs("a-(b-(c-d))", 3, -1);
        slopeIs("a-(b-(c-d))", 2, 1);
        slopeIs("3*f*f*f", 5, 9 * 998001);
        slopeIs("e*f", 5, 0);
        slopeIs("e*f", 4, 999);
        slopeIs("(f^4)^4", 5, BigInteger.valueOf(999).pow(15).longValue() * 16);
        slopeIs("(a+b+c+d+e+f)^0", 3, 0);
        slopeIs("((a^2)^0)*b", 0, 0);
        slopeIs("((a^2)^0)*b", 1, 1);
    }

    /** For a formula of degree 2, half of what it grows by either way is its slope. */
    private static void sensitivitiesByDifferences() {
        UncertainBook book = Check.book("(a-b)*(c+2*d)-e*f+a*-d+c^2-(b-c)*(b+f)");
        int[] at = {31, -17, 5, 12, -999, 998};
        for (int input = 0; input < 6; input++) {
            for (int k = 0; k < 6; k++) {
                book.shape(k, k == 4 ? -500 : at[k], 0, 0);
            }
            int estimate = book.input(input, 0);
            book.shape(input, estimate + 1, 0, 0);
            long above = book.value(0);
            book.shape(input, estimate - 1, 0, 0);
            long below = book.value(0);
            book.shape(input, estimate, 0, 0);
            Check.due("forward to " + input, (above - below) / 2, book.sensitivity(0, input));
            Check.due("backward to " + input, (above - below) / 2,
                    book.sensitivityAnew(0, input));
        }
    }

    private static void questionsRefused() {
        UncertainBook book = Check.book("a+b", "c");
        for (int model : new int[] {-1, 2, 7, 8, 9, Integer.MIN_VALUE, Integer.MAX_VALUE}) {
            Check.place("disagrees(" + model + ")", book, () -> book.disagrees(model));
            Check.place("unitOf(" + model + ")", book, () -> book.unitOf(model, false));
            Check.place("unitOf(" + model + ") second", book, () -> book.unitOf(model, true));
            Check.place("value(" + model + ")", book, () -> book.value(model));
            Check.place("sensitivity(" + model + ")", book, () -> book.sensitivity(model, 0));
            Check.place("sensitivityAnew(" + model + ")", book,
                    () -> book.sensitivityAnew(model, 0));
        }
        for (int input : new int[] {-1, 6, 60, Integer.MIN_VALUE, Integer.MAX_VALUE}) {
            Check.place("sensitivity to " + input, book, () -> book.sensitivity(0, input));
            Check.place("sensitivityAnew to " + input, book,
                    () -> book.sensitivityAnew(0, input));
        }
    }
}
