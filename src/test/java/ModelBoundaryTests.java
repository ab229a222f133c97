/**
 * Promises 7 to 13 at their edges: a test for each sentence of the document that names one.
 * What stands in quotes above a test is that sentence.
 */
final class ModelBoundaryTests {
    private static final int[] BEYOND = {-1, Integer.MIN_VALUE, Integer.MAX_VALUE};

    /** Of 60 signs, each of which makes a formula unlike all others: their value is 20. */
    private static final String SIXTY_UNLIKE =
            "-------0+-------1+-------2+-------3+-------4+-------5*-----6";

    private ModelBoundaryTests() {
    }

    public static void main(String[] args) {
        signsFrom32To126();
        signsUpToEightBitsOfZero();
        zeroTypesNone();
        somethingBehindEightBitsOfZero();
        atMostSixtySigns();
        firstExceptionOfType();
        lineIsEmptyBehindWhatReadsIt();
        lineStays();
        modelsThatThereAre();
        atMostEightModels();
        firstExceptionOfModel();
        modelStaysByAFault();
        faultOfTheFirstSign();
        faultBehindABase();
        faultAtTheEndOfTheLine();
        digitsOfANumber();
        namesFromAToF();
        digitsOfAPower();
        powersOfTheInnermostBase();
        noBlanksAnywhere();
        sevenWithinOneAnother();
        sevenInEachOfTwoParts();
        powersCountNotAsNested();
        unlikeFormulasAtLeastAndAtMost();
        unlikeFormulasByNumbersAndOrder();
        placesOfDisagreement();
        firstSignAsSignsStand();
        unitOfTheLeftSide();
        minusAheadHasOneSide();
        disagreementWithinAPowerOfZero();
        unitsOfNow();
        unitsWithoutExponents();
        unitsFarOut();
        longsGoRound();
        somethingToThePowerOfZero();
        slopesOfPowers();
        slopesGoRound();
        slopesOfEachInput();
        estimatesOfNow();
        questionsBeyondTheModels();
        questionsBeyondTheInputs();
        Check.end();
    }

    private static void faultIs(String text, int place) {
        UncertainBook book = new UncertainBook();
        Check.due("model of " + text, -1 - place, Check.model(book, 0, text));
        Check.due("the line behind it", 0, book.type(0));
    }

    private static void unlikeIs(String text, int due) {
        Check.due("model of " + text, due, Check.model(new UncertainBook(), 0, text));
    }

    private static void valueIs(String text, long due) {
        Check.due("value of " + text, due, Check.book(text).value(0));
    }

    /** "a line of .. signs, codes 32 to 126", "if a sign is out of range". */
    private static void signsFrom32To126() {
        UncertainBook book = new UncertainBook();
        for (int number = 0; number < 8; number++) {
            long filled = Check.signs("aaaaaaaa".substring(0, number));
            for (int sign : new int[] {32, 126}) {
                long signs = filled | (long) sign << (8 * number);
                Check.due("sign " + sign + " at " + number, number + 1, book.type(signs));
                book.model(0);
            }
            for (int sign : new int[] {1, 31, 127, 128, 255}) {
                long signs = filled | (long) sign << (8 * number);
                Check.argument("sign " + sign + " at " + number, book, () -> book.type(signs));
            }
        }
        Check.due("the line after all", 0, book.type(0));
    }

    /** "each in 8 bits, from the lowest ones on, up to 8 bits of 0". */
    private static void signsUpToEightBitsOfZero() {
        String text = "1+2*3-45";
        for (int count = 1; count <= 8; count++) {
            UncertainBook book = new UncertainBook();
            Check.due(count + " signs", count, book.type(Check.signs(text.substring(0, count))));
            Check.due("none more", count, book.type(0));
        }
        UncertainBook book = new UncertainBook();
        book.type(Check.signs(text));
        book.model(0);
        Check.due("in their order", 1 + 2 * 3 - 45, book.value(0));
    }

    /** "0 types none". */
    private static void zeroTypesNone() {
        UncertainBook book = new UncertainBook();
        Check.due("on an empty line", 0, book.type(0));
        Check.type(book, "a");
        Check.due("behind one", 1, book.type(0));
        Check.type(book, "+a".repeat(29) + "+");
        Check.due("on a full line", 60, book.type(0));
    }

    /** "or something is behind 8 bits of 0". */
    private static void somethingBehindEightBitsOfZero() {
        UncertainBook book = Check.book("a");
        book.type(Check.signs("a+1"));
        for (int zero = 0; zero < 7; zero++) {
            long filled = Check.signs("aaaaaaa".substring(0, zero));
            for (int number = zero + 1; number < 8; number++) {
                for (int sign : new int[] {1, 97, 128}) {
                    long signs = filled | (long) sign << (8 * number);
                    Check.argument("a sign at " + number + " behind " + zero, book,
                            () -> book.type(signs));
                }
            }
        }
        Check.due("the line as it was", 3, book.model(0));
    }

    /** "a line of at most 60 signs", "IllegalStateException if there would be more than 60". */
    private static void atMostSixtySigns() {
        for (int length = 53; length <= 60; length++) {
            UncertainBook book = new UncertainBook();
            Check.type(book, "+".repeat(length));
            for (int count = 1; count <= 8; count++) {
                long signs = Check.signs("+".repeat(count));
                if (length + count > 60) {
                    Check.state(count + " behind " + length, book, () -> book.type(signs));
                }
            }
            Check.due("the line as it was", length, book.type(0));
            Check.due("up to 60", 60, book.type(Check.signs("+".repeat(60 - length))));
        }
        UncertainBook book = new UncertainBook();
        Check.type(book, "9" + "+1".repeat(29));
        Check.state("two with room for one", book, () -> book.type(Check.signs("00")));
        Check.due("one", 60, book.type(Check.signs("0")));
        Check.due("all 60 are read, the last one too", 32, book.model(0));
        Check.due("their value", 9 + 28 + 10, book.value(0));
    }

    /** "If several exceptions apply, the one that is named first": type. */
    private static void firstExceptionOfType() {
        UncertainBook book = new UncertainBook();
        Check.type(book, "1".repeat(60));
        Check.state("a good one", book, () -> book.type(32));
        Check.argument("a wrong one", book, () -> book.type(31));
        Check.argument("one behind 8 bits of 0", book, () -> book.type(0x6100L));
        Check.argument("a wrong one behind good ones", book, () -> book.type(0x7F61616161616161L));
    }

    /** "a line .. that is empty behind what reads it", a FAULT or not. */
    private static void lineIsEmptyBehindWhatReadsIt() {
        UncertainBook book = new UncertainBook();
        for (String text : new String[] {"a", "a+", "", "?", SIXTY_UNLIKE, "+".repeat(60)}) {
            Check.model(book, 0, text);
            Check.due("the line behind " + text, 0, book.type(0));
            Check.type(book, "1".repeat(60));
            Check.due("which has room for 60 again", 60, book.type(0));
            Check.due("its fifth digit is a FAULT", -5, book.model(0));
        }
    }

    /** "as told (the line stays)", "if there are 8, and a new one is told (the line stays)". */
    private static void lineStays() {
        UncertainBook book = Check.book("a", "b");
        Check.type(book, "40-2");
        for (int model : new int[] {-1, 3, 8, 9, Integer.MIN_VALUE, Integer.MAX_VALUE}) {
            Check.place("model(" + model + ")", book, () -> book.model(model));
        }
        Check.due("the line then", 3, book.model(0));
        Check.due("its value", 38, book.value(0));
        for (int model = 2; model < 8; model++) {
            Check.model(book, model, "c");
        }
        Check.type(book, "50-2)");
        Check.state("model(8)", book, () -> book.model(8));
        Check.state("and once more", book, () -> book.model(8));
        Check.due("the line then, with its FAULT", -5, book.model(0));
        Check.due("the value as it was", 38, book.value(0));
    }

    /** "model: one that there is, or as many as there are, for a new one". */
    private static void modelsThatThereAre() {
        UncertainBook book = new UncertainBook();
        for (int models = 0; models < 8; models++) {
            int above = models + 1;
            Check.type(book, "1");
            Check.place("one above a new one", book, () -> book.model(above));
            Check.place("one below", book, () -> book.model(-1));
            Check.due("a new one", 1, book.model(models));
            Check.place("what is not yet", book, () -> book.value(above));
            for (int model = 0; model <= models; model++) {
                Check.due("one that there is", 3, Check.model(book, model, "2+" + (model + 3)));
                Check.due("its value", 2 + model + 3, book.value(model));
            }
        }
    }

    /** "Models are numbered from 0, at most 8; one can be told anew." */
    private static void atMostEightModels() {
        UncertainBook book = Check.book("10", "11", "12", "13", "14", "15", "16", "17");
        for (String text : new String[] {"a", "a+", ""}) {
            Check.type(book, text);
            Check.state("a ninth one by " + text, book, () -> book.model(8));
            book.model(3);
        }
        Check.due("the last one told anew", 2, Check.model(book, 7, "-7"));
        Check.due("the first one told anew", 2, Check.model(book, 0, "-9"));
        long[] values = {-9, 11, 12, 0, 14, 15, 16, -7};
        for (int model = 0; model < 8; model++) {
            Check.due("value(" + model + ")", values[model], book.value(model));
        }
        Check.place("value(8)", book, () -> book.value(8));
    }

    /** "If several exceptions apply, the one that is named first": model. */
    private static void firstExceptionOfModel() {
        UncertainBook book = Check.book("a", "a", "a", "a", "a", "a", "a", "a");
        Check.type(book, "b");
        for (int model : new int[] {-1, 9, 10, Integer.MIN_VALUE, Integer.MAX_VALUE}) {
            Check.place("model(" + model + ") of 8", book, () -> book.model(model));
        }
        Check.due("the line stays", 1, book.type(0));
    }

    /** "-1 less the place of the FAULT, and it is as it was". */
    private static void modelStaysByAFault() {
        UncertainBook book = Check.book("a*b+7", SIXTY_UNLIKE);
        book.shape(0, 3, 1, 9);
        book.shape(1, 4, 3, 5);
        book.unit(0, 1, 0);
        String before = State.of(book);
        for (int model = 0; model <= 2; model++) {
            Check.due("an empty line", -1, Check.model(book, model, ""));
            Check.due("the first sign", -1, Check.model(book, model, "*a"));
            Check.due("the last sign", -61, Check.model(book, model, "1" + "+c".repeat(29) + "-"));
            Check.due("the sixtieth", -60, Check.model(book, model, "1" + "+c".repeat(29) + "c"));
            Check.same("the book then", before, State.of(book));
        }
        Check.due("a new one behind them", 1, Check.model(book, 2, "b"));
        Check.due("its value", 4, book.value(2));
    }

    /** "A FAULT is at the place .. of the first sign that cannot stand there": as a BASE. */
    private static void faultOfTheFirstSign() {
        for (char sign = 32; sign <= 126; sign++) {
            boolean whole = sign >= '0' && sign <= '9' || sign >= 'a' && sign <= 'f';
            int due = whole ? 1 : sign == '-' || sign == '(' ? -2 : -1;
            Check.due("model of " + sign, due, Check.model(new UncertainBook(), 0, "" + sign));
            String behind = "(a*" + sign;
            int place = whole || sign == '-' || sign == '(' ? 4 : 3;
            faultIs(behind, place);
        }
    }

    /** The same behind a NAME, a NUMBER of 4 digits, a power and a parenthesis. */
    private static void faultBehindABase() {
        for (char sign = 32; sign <= 126; sign++) {
            boolean joins = sign == '+' || sign == '-' || sign == '*';
            faultIs("a" + sign, joins || sign == '^' ? 2 : 1);
            faultIs("1234" + sign, joins || sign == '^' ? 5 : 4);
            faultIs("a^2" + sign, joins ? 4 : 3);
            faultIs("(a)" + sign, joins || sign == '^' ? 4 : 3);
            if (sign != ')') {
                faultIs("(a" + sign, joins || sign == '^' ? 3 : 2);
            }
        }
    }

    /** "or at the end of the line, if something is missing". */
    private static void faultAtTheEndOfTheLine() {
        String[] texts = {"", "-", "(", "a+", "a-", "a*", "a^", "(a", "(a+b", "-(", "(-", "(a^",
            "(a^2", "((a)", "a+(", "a*-", "1234+", "-------", "(((((((", "(((((((a))))))",
            "a+b*(c-d", "a^2*", "(a)+", "(a)^", "-a^2^"};
        for (String text : texts) {
            faultIs(text, text.length());
        }
        faultIs("a" + "+a".repeat(29) + "*", 60);
        faultIs("(a" + "+a".repeat(29), 60);
        faultIs("1+a" + "+a".repeat(28) + "^", 60);
    }

    /** "NUMBER, 1 to 4 digits, as long as they come". */
    private static void digitsOfANumber() {
        valueIs("0", 0);
        valueIs("9", 9);
        valueIs("10", 10);
        valueIs("999", 999);
        valueIs("9999", 9999);
        valueIs("0000", 0);
        valueIs("0009", 9);
        valueIs("9999-0001*1000", 8999);
        faultIs("99999", 4);
        faultIs("00000", 4);
        faultIs("(12345)", 5);
        faultIs("a+12345", 6);
        faultIs("123456789", 4);
        faultIs("12 34", 2);
    }

    /** "NAME, a small letter a to f for the inputs 0 to 5". */
    private static void namesFromAToF() {
        UncertainBook book = Check.book("a", "b", "c", "d", "e", "f");
        for (int input = 0; input < 6; input++) {
            book.shape(input, 100 + input, 0, 0);
        }
        for (int input = 0; input < 6; input++) {
            Check.due("the value", 100 + input, book.value(input));
        }
        for (String text : new String[] {"`", "g", "A", "F", "G", "z", "@", "_", "{"}) {
            faultIs(text, 0);
            faultIs("a*" + text, 2);
        }
    }

    /** "BASE ^ and a digit 0 to 4". */
    private static void digitsOfAPower() {
        long[] due = {1, 3, 9, 27, 81};
        for (int digit = 0; digit <= 4; digit++) {
            valueIs("3^" + digit, due[digit]);
            faultIs("3^" + digit + digit, 3);
        }
        for (char sign = 32; sign <= 126; sign++) {
            if (sign < '0' || sign > '4') {
                faultIs("a^" + sign, 2);
            }
        }
        faultIs("a^", 2);
    }

    /** "a ^ belongs to the innermost BASE that can have it". */
    private static void powersOfTheInnermostBase() {
        valueIs("-2^2", -4);
        valueIs("(-2)^2", 4);
        valueIs("-(2)^2", -4);
        valueIs("-2^1^2", 4);
        valueIs("-2^3^2", 64);
        valueIs("--2^2", 4);
        valueIs("--2^1^1^2", 4);
        valueIs("-(-2)^2", -4);
        valueIs("2*3^2", 18);
        valueIs("1+3^2", 10);
        valueIs("1-2^2", -3);
        valueIs("-2^0", -1);
        valueIs("-2^1^0", 1);
        faultIs("2^2^2", 3);
        faultIs("-2^2^2^2", 6);
        faultIs("--2^2^2^2^2", 9);
        faultIs("(2^2)^2^2", 7);
        faultIs("(-2)^2^2", 6);
        faultIs("1-2^2^2", 5);
        faultIs("-(2^2)^2^2^2", 10);
        unlikeIs("-------2^1^1^1^1^1^1^1^1", 16);
        faultIs("-------2^1^1^1^1^1^1^1^1^1", 24);
    }

    /** "No blanks stand anywhere." */
    private static void noBlanksAnywhere() {
        String text = "-(a^2+12)*b";
        for (int at = 0; at <= text.length(); at++) {
            faultIs(text.substring(0, at) + " " + text.substring(at), at);
        }
    }

    private static String nest(int signs, int count) {
        StringBuilder text = new StringBuilder();
        for (int k = 0; k < count; k++) {
            text.append((signs >> k & 1) == 0 ? '-' : '(');
        }
        return text.toString();
    }

    private static String closed(int signs, int count, String within) {
        return nest(signs, count) + within
                + ")".repeat(Integer.bitCount(signs & (1 << count) - 1));
    }

    /** "within at most 6 others of both together (so seven can stand within one another)". */
    private static void sevenWithinOneAnother() {
        for (int signs = 0; signs < 128; signs++) {
            int minuses = 7 - Integer.bitCount(signs);
            unlikeIs(closed(signs, 7, "a"), 1 + minuses);
            valueIs(closed(signs, 7, "5"), minuses % 2 == 0 ? 5 : -5);
            faultIs(closed(signs, 7, "-a"), 7);
            faultIs(closed(signs, 7, "(a)"), 7);
            faultIs(nest(signs, 7), 7);
            faultIs(nest(signs, 7) + "-", 7);
            if ((signs >> 6 & 1) == 1) {
                faultIs(closed(signs, 7, "a*-b"), 9);
                faultIs(closed(signs, 7, "a+(b)"), 9);
            } else {
                unlikeIs(closed(signs, 7, "a*-b"), 4 + minuses);
                unlikeIs(closed(signs, 7, "a+(b)"), 3 + minuses);
            }
            unlikeIs("c*" + closed(signs, 7, "a"), 3 + minuses);
        }
    }

    /** What is closed holds nothing any more: a - ahead ends with its PART. */
    private static void sevenInEachOfTwoParts() {
        unlikeIs("(((((((a)))))))+(((((((b)))))))", 3);
        unlikeIs("-------a*-------b", 17);
        unlikeIs("-------a+-------b", 17);
        unlikeIs("a--------b", 10);
        unlikeIs("(((((((a)))))))--------b", 10);
        unlikeIs("((((((-a*-b))))))", 5);
        unlikeIs("((((((-a-(b)))))))", 4);
        unlikeIs("((((((" + "(a)*(b)+(c)" + "))))))", 5);
        faultIs("a---------b", 9);
        faultIs("(((((((a)))))))*((((((((b", 23);
        faultIs("((((((-(a", 7);
        faultIs("((((((-a*--b", 10);
    }

    /** Only - and parentheses are told to be within one another, not powers. */
    private static void powersCountNotAsNested() {
        unlikeIs("(((((((a^2)^2)^2)^2)^2)^2)^2)^2", 9);
        unlikeIs("-a^1-a^1-a^1-a^1-a^1-a^1-a^1-a^1-a^1-a^1", 12);
        unlikeIs("(a)*(a)*(a)*(a)*(a)*(a)*(a)*(a)*(a)*(a)", 10);
    }

    /** "how many unlike formulas are within it, itself, .. as well": from 1 to one a sign. */
    private static void unlikeFormulasAtLeastAndAtMost() {
        unlikeIs("0", 1);
        unlikeIs("f", 1);
        unlikeIs("(((((((9999)))))))", 1);
        unlikeIs(SIXTY_UNLIKE, 60);
        valueIs(SIXTY_UNLIKE, 20);
        unlikeIs("a" + "*a".repeat(29), 30);
        UncertainBook book = Check.book("a");
        Check.due("in the place of another", 60, Check.model(book, 0, SIXTY_UNLIKE));
        Check.due("and once more", 60, Check.model(book, 0, SIXTY_UNLIKE));
        Check.due("its sensitivity", 0, book.sensitivity(0, 0));
        Check.due("the same anew", 0, book.sensitivityAnew(0, 0));
        Check.due("where it disagrees", -1, book.disagrees(0));
        Check.due("the least after it", 1, Check.model(book, 0, "f"));
        Check.due("its value", 0, book.value(0));
    }

    /** "NUMBERs, by their numbers, .. parentheses left out, a + b and b + a being unlike". */
    private static void unlikeFormulasByNumbersAndOrder() {
        unlikeIs("1+01", 2);
        unlikeIs("1+0001", 2);
        unlikeIs("0+0000", 2);
        unlikeIs("1+10", 3);
        unlikeIs("a+(a)", 2);
        unlikeIs("(a+b)+((a+b))", 4);
        unlikeIs("(a+b)+(b+a)", 5);
        unlikeIs("(a*b)+(b*a)", 5);
        unlikeIs("(a+b)+(a-b)", 5);
        unlikeIs("a^0+a^1", 4);
        unlikeIs("a^1+a", 3);
        unlikeIs("a^2+a*a", 4);
        unlikeIs("-a+-(a)", 3);
        unlikeIs("0-a+-a", 5);
        unlikeIs("a^2+b^2", 5);
        unlikeIs("a-a", 2);
        unlikeIs("0+a*0", 4);
        unlikeIs("1^1+b^1", 5);
        unlikeIs("-0", 2);
    }

    /** "at the place of the first such sign": from 1 on, up to the last but one of a line. */
    private static void placesOfDisagreement() {
        String last = "a" + "*1".repeat(27) + "*11+b";
        UncertainBook book = Check.book("a+b", "a-b", "((((((a+b))))))", last, "a*b", "1234+a");
        for (int model = 0; model < 6; model++) {
            Check.due("none with units of exponents 0", -1, book.disagrees(model));
        }
        book.unit(0, 0, 3);
        int[] places = {1, 1, 7, 58, -1, 4};
        for (int model = 0; model < 6; model++) {
            Check.due("disagrees(" + model + ")", places[model], book.disagrees(model));
        }
        book.unit(0, -3, 0);
        for (int model = 0; model < 6; model++) {
            Check.due("by the first exponent", places[model], book.disagrees(model));
        }
        book.unit(1, -3, 0);
        for (int model = 0; model < 5; model++) {
            Check.due("none again", -1, book.disagrees(model));
        }
        book.unit(1, 3, 0);
        Check.due("by the sign of an exponent", 1, book.disagrees(0));
    }

    private static void disagreesAt(int place, String text) {
        UncertainBook book = Check.book(text);
        book.unit(0, 1, 0);
        book.unit(1, 0, 1);
        Check.due("disagrees of " + text, place, book.disagrees(0));
    }

    /** "at the place of the first such sign, as signs stand", however they are nested. */
    private static void firstSignAsSignsStand() {
        disagreesAt(4, "a+(a+b)");
        disagreesAt(1, "c+(a+b)");
        disagreesAt(2, "(a+b)+c");
        disagreesAt(1, "a-b+c");
        disagreesAt(3, "a-a-c");
        disagreesAt(4, "b+(b-a)+c");
        disagreesAt(4, "c*(a+b)*(b+a)");
        disagreesAt(7, "a+(a+(a-c))+b");
        disagreesAt(4, "a*(c+b*(c-a))");
        disagreesAt(9, "a*(b+b*(c-a))");
        disagreesAt(2, "(a+b)*(c+c)+(a+b)");
    }

    /** "that of the sum is taken to be that of its left side then". */
    private static void unitOfTheLeftSide() {
        UncertainBook book = Check.book("a+b", "b+a", "(a+b)+a", "(a+b)+b", "a+b-a", "(b-a)*a");
        book.unit(0, 1, 3);
        book.unit(1, 2, -3);
        int[] firsts = {1, 2, 1, 1, 1, 3};
        int[] seconds = {3, -3, 3, 3, 3, 0};
        int[] places = {1, 1, 2, 2, 1, 2};
        for (int model = 0; model < 6; model++) {
            Check.due("the first exponent", firsts[model], book.unitOf(model, false));
            Check.due("the second exponent", seconds[model], book.unitOf(model, true));
            Check.due("disagrees", places[model], book.disagrees(model));
        }
        book.shape(0, 5, 3, 4);
        book.shape(1, 7, 0, 0);
        Check.due("reckoned all the same", 12, book.value(0));
        Check.due("its sensitivity", 7 - 2 * 5, book.sensitivity(5, 0));
        Check.due("the same anew", 7 - 2 * 5, book.sensitivityAnew(5, 0));
        Check.budgetIs(book, 0, 8, 2, -1, 200, 4);
        Check.due("its draws", 100, book.draw(0, 100));
    }

    /** "Both sides of a + or -": a - ahead has one side only. */
    private static void minusAheadHasOneSide() {
        disagreesAt(-1, "-a");
        disagreesAt(-1, "-a-a");
        disagreesAt(-1, "a--a");
        disagreesAt(2, "-a-b");
        disagreesAt(1, "a--b");
        disagreesAt(-1, "-a*b");
        disagreesAt(-1, "-(a)*-(b)");
    }

    /** "something ^ 0 is of exponents 0", but what is within can disagree. */
    private static void disagreementWithinAPowerOfZero() {
        disagreesAt(2, "(a+b)^0");
        disagreesAt(-1, "(a*b)^0+1");
        disagreesAt(-1, "a^0-b^0");
        disagreesAt(3, "a^0-b^1");
        disagreesAt(6, "5*(a^0+b)");
        disagreesAt(-1, "((a^4)^4)^0+9");
    }

    /** "Units are those of now." */
    private static void unitsOfNow() {
        UncertainBook book = Check.book("a+b", "a");
        Check.due("one that comes", 1, book.unit(0, 0, 1));
        Check.due("its place", 1, book.disagrees(0));
        Check.due("the unit", 1, book.unitOf(1, true));
        Check.due("and goes", 0, book.unit(0, 0, 0));
        Check.due("its place then", -1, book.disagrees(0));
        Check.due("the unit then", 0, book.unitOf(1, true));
        Check.due("that of the other side", 1, book.unit(1, -1, 0));
        Check.due("its place again", 1, book.disagrees(0));
        Check.due("a unit told ahead of a model", 3, Check.model(book, 1, "b+1"));
        Check.due("disagrees at once", 1, book.disagrees(1));
    }

    private static void unitIs(String text, int first, int second) {
        UncertainBook book = Check.book(text);
        book.unit(0, 3, -3);
        book.unit(1, -3, 3);
        Check.due("the first of " + text, first, book.unitOf(0, false));
        Check.due("the second of " + text, second, book.unitOf(0, true));
    }

    /** "The unit of a NUMBER, and of something ^ 0, is of exponents 0". */
    private static void unitsWithoutExponents() {
        unitIs("0", 0, 0);
        unitIs("9999", 0, 0);
        unitIs("-7", 0, 0);
        unitIs("7^4", 0, 0);
        unitIs("a^0", 0, 0);
        unitIs("((a^4)^4)^0", 0, 0);
        unitIs("a^0*a", 3, -3);
        unitIs("c", 0, 0);
        unitIs("a*b", 0, 0);
        unitIs("0*a", 3, -3);
    }

    /** "of a product that of both added; of a power that as many times", as far as they go. */
    private static void unitsFarOut() {
        unitIs("a^1", 3, -3);
        unitIs("a^4", 12, -12);
        unitIs("b^4", -12, 12);
        unitIs("a" + "*a".repeat(29), 90, -90);
        unitIs("(((((((a^4)^4)^4)^4)^4)^4)^4)^4", 196608, -196608);
        unitIs("-------b^4^4^4^4^4^4^4^4", -196608, 196608);
        unitIs("(((((((a*a*a*a*a*a*a^4)^4)^4)^4)^4)^4)^4)^4", 3 * (6 + 4) * 16384, -491520);
    }

    /** "All is reckoned with longs that go round". */
    private static void longsGoRound() {
        String half = "((2^4)^4)^3*2^4*2^4*2^4";
        valueIs(half + "*2^2", 1L << 62);
        valueIs(half + "*2^3", Long.MIN_VALUE);
        valueIs(half + "*2^4", 0);
        valueIs(half + "*2^3-1", Long.MAX_VALUE);
        valueIs("-(" + half + "*2^3)", Long.MIN_VALUE);
        valueIs("1-" + half + "*2^3", Long.MIN_VALUE + 1);
        valueIs(half + "*2^3+" + half + "*2^3", 0);
        valueIs("(" + half + "*2^3)^2", 0);
        valueIs("(" + half + "*2^3-1)^2", 1);
        valueIs("(" + half + "*2^3-1)^3", Long.MAX_VALUE);
        valueIs("((((((3^4)^4)^4)^4)^4)^4)^4", power(3, 16384));
    }

    private static long power(long base, int exponent) {
        long power = 1;
        for (int k = 0; k < exponent; k++) {
            power *= base;
        }
        return power;
    }

    /** "something ^ 0 is 1", 0 too. */
    private static void somethingToThePowerOfZero() {
        valueIs("0^0", 1);
        valueIs("a^0", 1);
        valueIs("9999^0", 1);
        valueIs("(0-5)^0", 1);
        valueIs("(a-a)^0*7", 7);
        valueIs("(a^0)^0", 1);
        valueIs("-0^0", -1);
        valueIs("-0^1^0", 1);
        valueIs("0^1", 0);
        valueIs("0^4", 0);
    }

    private static void slopeIs(UncertainBook book, int input, long due) {
        Check.due("sensitivity(0, " + input + ")", due, book.sensitivity(0, input));
        Check.due("sensitivityAnew(0, " + input + ")", due, book.sensitivityAnew(0, input));
    }

    /** "of x ^ k: k times x ^ (k less 1) times that of x, 0 for k 0", at 0 and elsewhere. */
    private static void slopesOfPowers() {
        long[] atZero = {0, 1, 0, 0, 0};
        long[] atLess3 = {0, 1, -6, 27, -108};
        for (int k = 0; k <= 4; k++) {
            UncertainBook book = Check.book("a^" + k);
            slopeIs(book, 0, atZero[k]);
            book.shape(0, -3, 0, 0);
            slopeIs(book, 0, atLess3[k]);
            UncertainBook within = Check.book("(2*a+6)^" + k);
            slopeIs(within, 0, k == 0 ? 0 : 2 * k * power(6, k - 1));
            within.shape(0, -3, 0, 0);
            slopeIs(within, 0, k == 1 ? 2 : 0);
        }
    }

    /** The same with longs that go round. */
    private static void slopesGoRound() {
        String half = "((2^4)^4)^3*2^4*2^4*2^4";
        slopeIs(Check.book(half + "*2^2*a"), 0, 1L << 62);
        slopeIs(Check.book(half + "*2^3*a"), 0, Long.MIN_VALUE);
        slopeIs(Check.book(half + "*2^4*a"), 0, 0);
        slopeIs(Check.book("-(" + half + "*2^3*a)"), 0, Long.MIN_VALUE);
        slopeIs(Check.book(half + "*2^3*(a+a)"), 0, 0);
        slopeIs(Check.book("0-" + half + "*2^2*(a+a)"), 0, Long.MIN_VALUE);
        UncertainBook book = Check.book("(((a^4)^4)^4)^4");
        book.shape(0, 999, 0, 0);
        slopeIs(book, 0, 256 * power(999, 255));
        book.shape(0, -999, 0, 0);
        slopeIs(book, 0, 256 * power(-999, 255));
    }

    /** "of the input itself 1, of other inputs and NUMBERs 0", of inputs 0 to 5. */
    private static void slopesOfEachInput() {
        for (int name = 0; name < 6; name++) {
            UncertainBook book = Check.book("" + (char) ('a' + name));
            for (int input = 0; input < 6; input++) {
                slopeIs(book, input, input == name ? 1 : 0);
            }
        }
        UncertainBook number = Check.book("0");
        UncertainBook all = Check.book("-a+2*b-3*c+4*d-5*e+6*f");
        for (int input = 0; input < 6; input++) {
            slopeIs(number, input, 0);
            slopeIs(all, input, input % 2 == 0 ? -1 - input : 1 + input);
        }
    }

    /** "all at the estimates of now". */
    private static void estimatesOfNow() {
        UncertainBook book = Check.book("a*b");
        slopeIs(book, 0, 0);
        book.shape(1, -999, 3, 5);
        slopeIs(book, 0, -999);
        Check.readings(book, 1, 3, 4);
        slopeIs(book, 0, 3);
        book.read(1, -999);
        slopeIs(book, 0, -331);
        Check.due("the value", 0, book.value(0));
        book.shape(0, 999, 0, 0);
        Check.due("the value by the other one", -331 * 999, book.value(0));
    }

    /** "there is no such .. model .. if it is below 0", or not yet told. */
    private static void questionsBeyondTheModels() {
        UncertainBook book = new UncertainBook();
        for (int models = 0; models <= 8; models++) {
            for (int model : new int[] {models, 8, -1, Integer.MIN_VALUE, Integer.MAX_VALUE}) {
                Check.place("disagrees", book, () -> book.disagrees(model));
                Check.place("unitOf", book, () -> book.unitOf(model, false));
                Check.place("unitOf", book, () -> book.unitOf(model, true));
                Check.place("value", book, () -> book.value(model));
                Check.place("sensitivity", book, () -> book.sensitivity(model, 5));
                Check.place("sensitivityAnew", book, () -> book.sensitivityAnew(model, 5));
            }
            if (models < 8) {
                Check.model(book, models, "f");
                Check.due("what there is", 1, book.sensitivity(models, 5));
            }
        }
    }

    /** "IndexOutOfBoundsException as told, of both". */
    private static void questionsBeyondTheInputs() {
        UncertainBook book = Check.book("a*f");
        for (int input : new int[] {-1, 6, Integer.MIN_VALUE, Integer.MAX_VALUE}) {
            Check.place("sensitivity", book, () -> book.sensitivity(0, input));
            Check.place("sensitivityAnew", book, () -> book.sensitivityAnew(0, input));
            for (int model : BEYOND) {
                Check.place("both", book, () -> book.sensitivity(model, input));
                Check.place("both anew", book, () -> book.sensitivityAnew(model, input));
            }
        }
    }
}
