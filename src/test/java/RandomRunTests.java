import java.util.Random;
import java.util.TreeMap;

/** Runs of calls by chance from fixed seeds: every answer is compared with the Oracle's. */
final class RandomRunTests {
    private static final int CALLS = 512;

    private final Random random;
    private final UncertainBook book = new UncertainBook();
    private final Oracle oracle = new Oracle();
    private final StringBuilder story = new StringBuilder();
    private boolean same = true;
    /** How often each call gave an answer, and how often it threw. */
    private static final TreeMap<String, Integer> OUTCOMES = new TreeMap<>();

    private RandomRunTests(long seed) {
        random = new Random(seed);
    }

    public static void main(String[] args) {
        int runs = args.length > 0 ? Integer.parseInt(args[0]) : 400;
        for (int seed = 0; seed < runs; seed++) {
            new RandomRunTests(seed).run();
        }
        faultsOfShortTexts();
        if (args.length > 0) {
            System.out.println(OUTCOMES);
        }
        Check.end();
    }

    private void run() {
        for (int call = 0; call < CALLS && same; call++) {
            if (random.nextInt(call < 60 ? 3 : 8) == 0) {
                tellModel();
            } else {
                call();
            }
        }
    }

    private void compare(String call, Check.Call ours, Check.Call theirs) {
        String due = outcome(theirs);
        String got = outcome(ours);
        story.append(call).append(" -> ").append(due).append('\n');
        String name = call.substring(0, call.indexOf('('));
        OUTCOMES.merge(due.startsWith("throws") ? name + " " + due : name, 1, Integer::sum);
        if (!due.equals(got)) {
            same = false;
            Check.tell(story + "... " + call + " answered " + got);
        } else {
            Check.due(call, 0, 0);
        }
    }

    private static String outcome(Check.Call call) {
        try {
            return "" + call.answer();
        } catch (IndexOutOfBoundsException | IllegalArgumentException | IllegalStateException e) {
            return "throws." + e.getClass().getSimpleName();
        }
    }

    private int any(int least, int most) {
        return least + random.nextInt(most - least + 1);
    }

    /** Mostly within the range, sometimes at its ends, seldom beyond it. */
    private int near(int least, int most) {
        switch (random.nextInt(25)) {
            case 0: return least - 1;
            case 1: return most + 1;
            case 2: case 3: return least;
            case 4: case 5: return most;
            case 6: return random.nextInt(8) == 0 ? random.nextInt() : any(least, most);
            default: return any(least, most);
        }
    }

    private void call() {
        int model = random.nextInt(3) == 0 ? near(0, 8) : any(0, 3);
        int input = near(0, 5);
        boolean second = random.nextBoolean();
        switch (random.nextInt(19)) {
            case 0: case 1: shape(input); break;
            case 2: case 3: readings(input); break;
            case 4: unit(input); break;
            case 5: together(input, near(0, 5)); break;
            case 6: what(input, near(0, 4)); break;
            case 7: raw(random.nextInt(6) == 0 ? random.nextLong() : mangled()); break;
            case 8:
                compare("disagrees(" + model + ")",
                        () -> book.disagrees(model), () -> oracle.disagrees(model));
                break;
            case 9:
                compare("unitOf(" + model + ", " + second + ")",
                        () -> book.unitOf(model, second), () -> oracle.unitOf(model, second));
                break;
            case 10:
                compare("value(" + model + ")",
                        () -> book.value(model), () -> oracle.value(model));
                break;
            case 11: slopes(model, input); break;
            case 12: case 13: budget(model, near(0, 4)); break;
            case 14:
                compare("contribution(" + model + ", " + input + ", " + second + ")",
                        () -> book.contribution(model, input, second),
                        () -> oracle.contribution(model, input, second));
                break;
            case 15: ranked(model, near(0, 6)); break;
            case 16: case 17: table(); break;
            default: drawOrSeed(model); break;
        }
    }

    private void shape(int input) {
        int estimate = random.nextInt(3) > 0 ? any(-9, 9) : near(-999, 999);
        int sort = near(0, 3);
        int width = sort == 0 && random.nextInt(6) > 0 ? 0
                : random.nextInt(3) > 0 ? any(0, 5) : near(0, 99);
        compare("shape(" + input + ", " + estimate + ", " + sort + ", " + width + ")",
                () -> book.shape(input, estimate, sort, width),
                () -> oracle.shape(input, estimate, sort, width));
    }

    private void readings(int input) {
        int often = random.nextInt(20) == 0 ? 10 : any(1, 2);
        for (int k = 0; k < often && same; k++) {
            int value = random.nextInt(3) > 0 ? any(-9, 9) : near(-999, 999);
            compare("read(" + input + ", " + value + ")",
                    () -> book.read(input, value), () -> oracle.read(input, value));
        }
    }

    private void unit(int input) {
        int first = random.nextInt(3) > 0 ? any(0, 1) : near(-3, 3);
        int second = random.nextInt(3) > 0 ? 0 : near(-3, 3);
        compare("unit(" + input + ", " + first + ", " + second + ")",
                () -> book.unit(input, first, second), () -> oracle.unit(input, first, second));
    }

    private void together(int input, int other) {
        int value = random.nextInt(3) > 0 ? any(-5, 5) : near(-9999, 9999);
        compare("together(" + input + ", " + other + ", " + value + ")",
                () -> book.together(input, other, value),
                () -> oracle.together(input, other, value));
    }

    private void what(int input, int what) {
        compare("input(" + input + ", " + what + ")",
                () -> book.input(input, what), () -> oracle.input(input, what));
    }

    private void slopes(int model, int input) {
        compare("sensitivity(" + model + ", " + input + ")",
                () -> book.sensitivity(model, input), () -> oracle.sensitivity(model, input));
        compare("sensitivityAnew(" + model + ", " + input + ")",
                () -> book.sensitivityAnew(model, input), () -> oracle.sensitivity(model, input));
    }

    private void budget(int model, int what) {
        compare("budget(" + model + ", " + what + ")",
                () -> book.budget(model, what), () -> oracle.budget(model, what));
    }

    private void ranked(int model, int place) {
        compare("ranked(" + model + ", " + place + ")",
                () -> book.ranked(model, place), () -> oracle.ranked(model, place));
    }

    private void table() {
        int degrees = random.nextInt(3) > 0 ? any(1, 6) : near(1, 9999);
        int factor = random.nextInt(4) == 0 ? -1 : near(0, 999);
        compare("table(" + degrees + ", " + factor + ")",
                () -> book.table(degrees, factor), () -> oracle.table(degrees, factor));
    }

    private void drawOrSeed(int model) {
        int x = near(0, 65536);
        if (random.nextInt(4) == 0) {
            compare("seed(" + x + ")", () -> book.seed(x), () -> oracle.seed(x));
        }
        int draws = random.nextInt(4) > 0 ? any(1, 9) : near(1, 100);
        compare("draw(" + model + ", " + draws + ")",
                () -> book.draw(model, draws), () -> oracle.draw(model, draws));
    }

    private void raw(long signs) {
        compare("type(" + signs + ")", () -> book.type(signs), () -> oracle.type(signs));
    }

    private long mangled() {
        long signs = 0;
        for (int k = any(0, 8); k > 0; k--) {
            int sign = random.nextInt(30) == 0 ? near(32, 126) : "ab+-*^2(1)".charAt(any(0, 9));
            signs = signs << 8 | sign & 255;
        }
        return signs;
    }

    private void tellModel() {
        String text = sum(any(0, 4));
        if (text.length() > 60) {
            text = text.substring(0, any(1, 60));
        } else if (random.nextInt(5) == 0) {
            text = spoilt(text);
        }
        for (int from = 0; from < text.length() && same; from += 8) {
            raw(Check.signs(text.substring(from, Math.min(text.length(), from + 8))));
        }
        int model = random.nextInt(4) == 0 ? near(0, 8) : any(0, 8);
        for (int told = model; told >= 0 && same; told = told > 3 ? told / 2 : told - 1) {
            int now = told;
            compare("model(" + now + ")", () -> book.model(now), () -> oracle.model(now));
            if (oracle.type(0) == 0) {
                break;
            }
        }
    }

    private String spoilt(String text) {
        int at = any(0, text.length());
        char sign = "()+-*^0123456789abcdefg /".charAt(any(0, 24));
        int behind = Math.min(text.length(), at + any(0, 1));
        String made = text.substring(0, at) + sign + text.substring(behind);
        return made.length() > 60 ? text : made;
    }

    private String sum(int depth) {
        StringBuilder text = new StringBuilder(term(depth));
        while (random.nextInt(5) < 2) {
            text.append(random.nextBoolean() ? '+' : '-').append(term(depth));
        }
        return text.toString();
    }

    private String term(int depth) {
        StringBuilder text = new StringBuilder(part(depth));
        while (random.nextInt(3) == 0) {
            text.append('*').append(part(depth));
        }
        return text.toString();
    }

    private String part(int depth) {
        String base = base(depth);
        return random.nextInt(4) == 0 ? base + "^" + any(0, 4) : base;
    }

    private String base(int depth) {
        int kind = random.nextInt(depth > 0 ? 8 : 4);
        if (kind >= 6) {
            return "(" + sum(depth - 1) + ")";
        }
        if (kind >= 4) {
            return "-" + part(depth - 1);
        }
        if (kind == 0) {
            return "" + (random.nextInt(3) > 0 ? any(0, 3) : any(0, 9999));
        }
        return "" + (char) ('a' + any(0, random.nextInt(3) > 0 ? 2 : 5));
    }

    /** Every text of up to six of these signs, and each within a deep nest. */
    private static void faultsOfShortTexts() {
        String signs = "a1+-*^()";
        for (int length = 0; length <= 6; length++) {
            long all = 1L << (3 * length);
            for (long number = 0; number < all; number++) {
                StringBuilder text = new StringBuilder();
                for (int k = 0; k < length; k++) {
                    text.append(signs.charAt((int) (number >> (3 * k)) & 7));
                }
                compareReading(text.toString());
            }
        }
        for (int number = 0; number < 1 << 12; number++) {
            StringBuilder text = new StringBuilder("-(-((");
            for (int k = 0; k < 4; k++) {
                text.append(signs.charAt(number >> (3 * k) & 7));
            }
            compareReading(text + ")^2)^2)^2^2");
        }
    }

    private static void compareReading(String text) {
        UncertainBook book = new UncertainBook();
        Oracle oracle = new Oracle();
        for (int from = 0; from < text.length(); from += 8) {
            long signs = Check.signs(text.substring(from, Math.min(text.length(), from + 8)));
            book.type(signs);
            oracle.type(signs);
        }
        Check.due("model of " + text, oracle.model(0), book.model(0));
    }
}
