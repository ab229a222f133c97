/** All that can be asked of a book without changing it, as one text. */
final class State {
    /** Degrees from which on no test tells a factor, so that taking it away only counts. */
    private static final int DEGREES_NOT_TOLD = 7777;

    private State() {
    }

    static String of(UncertainBook book) {
        StringBuilder text = new StringBuilder();
        for (int input = 0; input < 6; input++) {
            text.append("input ").append(input);
            for (int what = 0; what < 5; what++) {
                text.append(' ').append(book.input(input, what));
            }
            text.append(" with");
            for (int other = 0; other < 6; other++) {
                text.append(' ').append(other == input ? 0 : covariance(book, input, other));
            }
            text.append('\n');
        }
        text.append("line ").append(book.type(0)).append('\n');
        int x = book.seed(0);
        book.seed(x);
        text.append("x ").append(x).append('\n');
        text.append("factors ").append(book.table(DEGREES_NOT_TOLD, -1)).append('\n');
        for (int model = 0; model < 10; model++) {
            addModel(text, book, model);
        }
        return text.toString();
    }

    private static int covariance(UncertainBook book, int input, int other) {
        int covariance = book.together(input, other, 0);
        book.together(input, other, covariance);
        return covariance;
    }

    private static void addModel(StringBuilder text, UncertainBook book, int model) {
        try {
            text.append("model ").append(model).append(" value ").append(book.value(model));
        } catch (IndexOutOfBoundsException e) {
            text.append(" none\n");
            return;
        }
        text.append(" disagrees ").append(book.disagrees(model));
        text.append(" unit ").append(book.unitOf(model, false));
        text.append(' ').append(book.unitOf(model, true)).append(" budget");
        for (int what = 0; what < 5; what++) {
            text.append(' ').append(book.budget(model, what));
        }
        for (int input = 0; input < 6; input++) {
            text.append("\n  ").append(book.sensitivity(model, input));
            text.append(' ').append(book.sensitivityAnew(model, input));
            text.append(' ').append(book.contribution(model, input, false));
            text.append(' ').append(book.contribution(model, input, true));
            text.append(' ').append(book.ranked(model, input));
        }
        text.append('\n');
    }
}
