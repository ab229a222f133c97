/** What the tests are written with: calls with the answers, or the exceptions, that are due. */
final class Check {
    /** A call that may throw. */
    interface Call {
        long answer();
    }

    private static int right = 0;
    private static int wrong = 0;

    private Check() {
    }

    static void due(String call, long due, long got) {
        if (got == due) {
            right++;
        } else {
            tell(call + " answered " + got + ", due is " + due);
        }
    }

    static void same(String what, String due, String got) {
        if (got.equals(due)) {
            right++;
        } else {
            tell(what + " is\n" + got + "\ndue is\n" + due);
        }
    }

    /** The call throws just this exception, and nothing that can be asked is another then. */
    static void refused(String what, UncertainBook book, Class<?> exception, Call call) {
        String before = State.of(book);
        String got = "an answer";
        try {
            got = "the answer " + call.answer();
        } catch (RuntimeException e) {
            got = e.getClass().getSimpleName();
        }
        same("the outcome of " + what, exception.getSimpleName(), got);
        same("what can be asked after " + what, before, State.of(book));
    }

    static void place(String what, UncertainBook book, Call call) {
        refused(what, book, IndexOutOfBoundsException.class, call);
    }

    static void argument(String what, UncertainBook book, Call call) {
        refused(what, book, IllegalArgumentException.class, call);
    }

    static void state(String what, UncertainBook book, Call call) {
        refused(what, book, IllegalStateException.class, call);
    }

    /** Types a text whole. */
    static void type(UncertainBook book, String text) {
        for (int from = 0; from < text.length(); from += 8) {
            book.type(signs(text.substring(from, Math.min(text.length(), from + 8))));
        }
    }

    static long signs(String text) {
        long signs = 0;
        for (int k = 0; k < text.length(); k++) {
            signs |= (long) text.charAt(k) << (8 * k);
        }
        return signs;
    }

    /** Types a text and reads it as a model. */
    static int model(UncertainBook book, int model, String text) {
        type(book, text);
        return book.model(model);
    }

    /** A new book with these models from 0 on. */
    static UncertainBook book(String... texts) {
        UncertainBook book = new UncertainBook();
        for (int model = 0; model < texts.length; model++) {
            if (model(book, model, texts[model]) < 0) {
                tell("the text " + texts[model] + " is not read");
            }
        }
        return book;
    }

    /** Adds readings to an input. */
    static void readings(UncertainBook book, int input, int... readings) {
        for (int reading : readings) {
            book.read(input, reading);
        }
    }

    /** The numbers of an input, from the estimate on. */
    static void inputIs(UncertainBook book, int input, int... due) {
        for (int what = 0; what < due.length; what++) {
            due("input(" + input + ", " + what + ")", due[what], book.input(input, what));
        }
    }

    /** The numbers of a model's budget, from the variance on. */
    static void budgetIs(UncertainBook book, int model, long... due) {
        for (int what = 0; what < due.length; what++) {
            due("budget(" + model + ", " + what + ")", due[what], book.budget(model, what));
        }
    }

    /** The contributions of the inputs to model 0, from input 0 on. */
    static void contributionsAre(UncertainBook book, long... due) {
        for (int input = 0; input < due.length; input++) {
            due("contribution(0, " + input + ")", due[input],
                    book.contribution(0, input, false));
        }
    }

    /** The shares of the inputs in model 0, from input 0 on. */
    static void sharesAre(UncertainBook book, long... due) {
        for (int input = 0; input < due.length; input++) {
            due("the share of " + input, due[input], book.contribution(0, input, true));
        }
    }

    /** The inputs by their ranks in model 0, from place 0 on. */
    static void ranksAre(UncertainBook book, int... due) {
        for (int place = 0; place < due.length; place++) {
            due("ranked(0, " + place + ")", due[place], book.ranked(0, place));
        }
    }

    static void tell(String text) {
        wrong++;
        if (wrong <= 40) {
            System.out.println(text);
        }
    }

    /** To be called at the end of a test's main. */
    static void end() {
        System.out.println(right + " answers as due, " + wrong + " not");
        if (wrong != 0 || right == 0) {
            System.exit(1);
        }
    }
}
