import java.io.IOException;
import java.io.UncheckedIOException;
import java.nio.file.Files;
import java.nio.file.Path;
import java.util.ArrayList;
import java.util.List;
import java.util.function.Consumer;

/** Tests that stand for one sentence of the document each: its words are looked up there, so that no test outlives them. */
final class Edges {
    static final int MIN = Integer.MIN_VALUE;
    static final int MAX = Integer.MAX_VALUE;

    private static final String DOCUMENT = document();
    private static final boolean[] PROMISES = new boolean[45];
    private static String words = "";

    private Edges() {
    }

    /** Empty where the document is not at hand: the class can be tested without it, its words cannot be looked up. */
    private static String document() {
        Path path = Path.of("../shared/DOC.md");
        if (!Files.exists(path)) {
            System.out.println("no " + path + ": the tests' words are not looked up");
            return "";
        }
        try {
            return Files.readString(path).replaceAll("\\s+", " ");
        } catch (IOException e) {
            throw new UncheckedIOException(e);
        }
    }

    /** What comes behind is a test of these words of a promise. */
    static void promise(int number, String sentence) {
        String to = number < 44 ? "## Promise " + (number + 1) + ":" : "## Not promised";
        PROMISES[number] = true;
        begin("promise " + number, "## Promise " + number + ":", to, sentence);
    }

    /** .. of these words ahead of the promises. */
    static void terms(String sentence) {
        begin("terms", "# HeadCloths", "## Promise 1:", sentence);
    }

    private static void begin(String part, String from, String to, String sentence) {
        words = part + " \"" + sentence + "\": ";
        if (!DOCUMENT.isEmpty()) {
            int at = DOCUMENT.indexOf(sentence, Math.max(0, DOCUMENT.indexOf(from)));
            Checks.due(words + "stands in the document", true, at >= 0 && at < DOCUMENT.indexOf(to));
        }
    }

    static void due(String call, long want, long got) {
        Checks.due(words + call, want, got);
    }

    static void due(String call, boolean want, boolean got) {
        Checks.due(words + call, want, got);
    }

    static HeadCloths of(String text) {
        HeadCloths x = new HeadCloths();
        Checks.type(x, text);
        due("read() of " + text, 0, x.read());
        return x;
    }

    static void fault(String text, int number, int place) {
        HeadCloths x = new HeadCloths();
        Checks.type(x, text);
        due("read() of " + text, number, x.read());
        due("place() of " + text, place, x.place());
    }

    static void fine(String text) {
        fault(text, 0, -1);
    }

    static void owns(String call, HeadCloths x, int head, int... amounts) {
        for (int t = 0; t < 4; t++) {
            due(call + ": head(" + head + ", " + t + ")", amounts[t], x.head(head, t));
        }
    }

    static void squares(String call, HeadCloths x, int chair, int... amounts) {
        for (int t = 0; t < 4; t++) {
            due(call + ": chair(" + chair + ", " + t + ")", amounts[t], x.chair(chair, t));
        }
    }

    /** All that can be seen of an object, but for place(). */
    static List<Integer> picture(HeadCloths x) {
        List<Integer> all = new ArrayList<>();
        for (int what = 0; what <= 18; what++) {
            all.add(x.count(what));
        }
        for (int chair = 0; chair < all.get(0); chair++) {
            for (int what = 0; what <= 6; what++) {
                all.add(x.chair(chair, what));
            }
        }
        for (int head = 0; head < all.get(1); head++) {
            for (int what = 0; what <= 6; what++) {
                all.add(x.head(head, what));
            }
        }
        for (int visit = 0; visit < all.get(2); visit++) {
            all.add(x.visit(visit, 3));
        }
        for (int known = 0; known <= all.get(10); known++) {
            all.add(x.who(known, 1));
        }
        return all;
    }

    static void same(String call, HeadCloths x, HeadCloths y) {
        List<Integer> one = picture(x);
        List<Integer> other = picture(y);
        due(call + ": " + one + " is " + other, true, one.equals(other));
    }

    /** Two objects do the same things, but one of them makes the call too: nobody can tell them apart, then or behind undo. */
    static void nothingHappens(String call, String house, Consumer<HeadCloths> ahead, Consumer<HeadCloths> act) {
        HeadCloths x = of(house);
        HeadCloths y = of(house);
        ahead.accept(x);
        ahead.accept(y);
        act.accept(x);
        same(call + ": nothing happens", x, y);
        due(call + ": undo() behind it", y.undo(), x.undo());
        same(call + ": undone", x, y);
        due(call + ": restore(1) behind it", y.restore(1), x.restore(1));
        same(call + ": restored", x, y);
    }

    /** No promise is left out. */
    static void eachHasOne(int from, int to) {
        for (int number = from; number <= to; number++) {
            Checks.due("promise " + number + " has a test of its own", true, PROMISES[number]);
        }
    }
}
