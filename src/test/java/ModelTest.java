import java.lang.reflect.InvocationTargetException;
import java.lang.reflect.Method;
import java.util.ArrayList;
import java.util.Comparator;
import java.util.List;
import java.util.Random;

/** Runs of calls by fixed seeds, each answer held against that of Model: all promises, in all orders. */
public final class ModelTest {
    private static final List<Method> FACE = new ArrayList<>();

    private final Random random;
    private final HeadCloths ours = new HeadCloths();
    private final Model model = new Model();
    private final StringBuilder log = new StringBuilder();
    private int calls = 0;

    private ModelTest(long seed) {
        random = new Random(seed);
    }

    public static void main(String[] args) throws ReflectiveOperationException {
        int runs = args.length > 0 ? Integer.parseInt(args[0]) : 250;
        int first = args.length > 1 ? Integer.parseInt(args[1]) : 0;
        for (Method method : HeadCloths.class.getDeclaredMethods()) {
            if (java.lang.reflect.Modifier.isPublic(method.getModifiers())) {
                FACE.add(method);
            }
        }
        FACE.sort(Comparator.comparing(Method::getName));
        for (int seed = first; seed < first + runs && Checks.wrong() == 0; seed++) {
            new ModelTest(seed).run();
        }
        Checks.end("ModelTest");
    }

    private void run() throws ReflectiveOperationException {
        int shape = random.nextInt(4);
        int pace = random.nextInt(3);
        feed(shape == 0 ? broken() : text());
        call("read");
        call("place");
        askAhead();
        while (calls < 512 && Checks.wrong() == 0) {
            if (random.nextInt(shape == 0 ? 6 : 150) == 0 && calls < 360) {
                feed(random.nextInt(3) == 0 ? text() : broken());
                call("read");
                call("place");
                askAhead();
                continue;
            }
            Method method = FACE.get(random.nextInt(FACE.size()));
            if (random.nextInt(100) < skipped(method.getName(), pace)) {
                continue;
            }
            call(method, arguments(method));
        }
        if (Checks.wrong() > 0) {
            System.out.println(log);
        }
    }

    /** While heads still have much: what is seldom to be found later. */
    private void askAhead() throws ReflectiveOperationException {
        for (int i = 0; i < 3; i++) {
            int head = headArg();
            int thought = upTo(3);
            for (int step = -1; step < 3; step++) {
                call("sittings", head, thought, step);
            }
            call("alone", head, chairArg(), thought);
            call("when", head, thought);
            call("look", 0, amountArg());
        }
    }

    /** By the pace, what undoes the work of others comes seldom, so that heaps can grow. */
    private static int skipped(String name, int pace) {
        switch (name) {
            case "read":
                return 95;
            case "forget":
            case "undo":
            case "restore":
                return pace == 0 ? 0 : 97;
            case "starch":
            case "wash":
                return pace == 2 ? 90 : 30;
            case "keep":
                return 50;
            default:
                return 0;
        }
    }

    private void feed(String text) throws ReflectiveOperationException {
        log.append("text: ").append(text).append('\n');
        call("back", model.tape.length());
        for (int[] w : Checks.words(text)) {
            call("feed", w[0], w[1], w[2], w[3], w[4]);
        }
        call("back", Checks.padding(text));
    }

    private void call(String name, int... numbers) throws ReflectiveOperationException {
        for (Method method : FACE) {
            if (method.getName().equals(name)) {
                Object[] args = new Object[numbers.length];
                for (int i = 0; i < numbers.length; i++) {
                    args[i] = numbers[i];
                }
                call(method, args);
            }
        }
    }

    private void call(Method method, Object[] args) throws ReflectiveOperationException {
        calls++;
        StringBuilder text = new StringBuilder(method.getName()).append('(');
        for (Object arg : args) {
            text.append(arg).append(' ');
        }
        text.append(')');
        Object want = Model.class.getDeclaredMethod(method.getName(), method.getParameterTypes()).invoke(model, args);
        Object got;
        try {
            got = method.invoke(ours, args);
        } catch (InvocationTargetException e) {
            System.out.println(text + " threw " + e.getCause());
            e.getCause().printStackTrace(System.out);
            got = -77777;
        }
        log.append(text).append(" = ").append(want).append('\n');
        Checks.due(text.toString(), number(want), number(got));
    }

    private static long number(Object answer) {
        return answer instanceof Boolean b ? (b ? 1 : 0) : ((Number) answer).longValue();
    }

    /** Mostly numbers that there are, now and then one just outside, seldom one far off. */
    private int upTo(int most) {
        int kind = random.nextInt(60);
        if (kind == 0) {
            return random.nextInt();
        }
        return kind < 4 ? random.nextInt(most + 3) - 1 : random.nextInt(most + 1);
    }

    private Object[] arguments(Method method) {
        Class<?>[] types = method.getParameterTypes();
        Object[] args = new Object[types.length];
        for (int i = 0; i < types.length; i++) {
            args[i] = types[i] == boolean.class ? (Object) random.nextBoolean() : (Object) argument(method.getName(), i);
        }
        return args;
    }

    private int chairArg() {
        return upTo(Math.max(0, model.now.squares.length - 1));
    }

    private int headArg() {
        return upTo(Math.max(0, model.now.owns.length - 1));
    }

    private int visitArg() {
        return upTo(Math.max(0, model.now.kept.length - 1));
    }

    private int hoursArg() {
        return random.nextInt(3) == 0 ? upTo(72) : upTo(5);
    }

    private int amountArg() {
        return random.nextInt(8) == 0 ? upTo(999) : upTo(40);
    }

    private int argument(String name, int i) {
        switch (name) {
            case "feed": return random.nextInt();
            case "back": return upTo(25);
            case "chair": return i == 0 ? chairArg() : upTo(6);
            case "head": return i == 0 ? headArg() : upTo(6);
            case "visit": return i == 0 ? visitArg() : upTo(3);
            case "tells": return i == 0 ? chairArg() : i == 1 ? headArg() : upTo(3);
            case "sit": return i == 0 ? headArg() : chairArg();
            case "wash": case "starch": case "change": return chairArg();
            case "keep": return visitArg();
            case "hours": case "lost": return hoursArg();
            case "sittings": return i == 0 ? headArg() : i == 1 ? upTo(3) : upTo(3) - 1;
            case "alone": case "gain": return i == 0 ? headArg() : i == 1 ? chairArg() : upTo(3);
            case "bestChair": case "when": return i == 0 ? headArg() : upTo(3);
            case "most": return i == 0 ? upTo(3) : upTo(1);
            case "meet": return i < 2 ? upTo(3) : hoursArg();
            case "without": return i == 0 ? visitArg() : i == 1 ? upTo(3) : hoursArg();
            case "alike": case "agree": case "fullest": case "clean": return upTo(1);
            case "share": return i == 0 ? chairArg() : upTo(3);
            case "foremost": return headArg();
            case "saysIn": return i == 0 ? headArg() : hoursArg();
            case "silent": return upTo(3);
            case "headIn": return i == 0 ? headArg() : i == 1 ? upTo(3) : hoursArg();
            case "chairIn": return i == 0 ? chairArg() : i == 1 ? upTo(3) : hoursArg();
            case "then": return i == 0 ? hoursArg() : upTo(4);
            case "year": return i == 0 ? headArg() : i == 1 ? upTo(3) : i == 2 ? hoursArg() : upTo(20);
            case "tell": return i == 0 ? chairArg() : i == 1 ? upTo(3) : amountArg();
            case "who": return i == 0 ? upTo(model.told.size()) : upTo(1);
            case "look": return i == 0 ? upTo(model.told.size()) : amountArg();
            case "hold": case "restore": return upTo(2);
            default: return upTo(18);
        }
    }

    // ---- texts

    private String blank() {
        int kind = random.nextInt(12);
        return kind == 0 ? "\n" : kind == 1 ? "\t \r" : " ";
    }

    private String text() {
        for (int tries = 0; tries < 50; tries++) {
            String text = anyText();
            if (text.length() <= 2000) {
                return text;
            }
        }
        return "";
    }

    private String anyText() {
        int chairs = random.nextInt(8) == 0 ? 0 : 1 + random.nextInt(4);
        int heads = random.nextInt(8) == 0 ? 0 : 1 + random.nextInt(5);
        int visits = chairs * heads == 0 ? 0 : random.nextInt(11);
        int full = random.nextInt(5) == 0 ? 3 : 100;
        StringBuilder out = new StringBuilder();
        for (int i = 0; i < chairs; i++) {
            out.append("chair c").append((char) ('a' + i)).append(blank()).append(random.nextInt(10)).append(';');
        }
        for (int i = 0; i < heads; i++) {
            out.append("head h").append((char) ('a' + i)).append(blank()).append(random.nextInt(10));
            for (int t = 0; t < 4; t++) {
                out.append(blank()).append(random.nextInt(4) == 0 ? 0 : random.nextInt(full));
            }
            out.append(';');
        }
        int span = random.nextBoolean() ? 24 : 3;
        for (int i = 0; i < visits; i++) {
            out.append("visit h").append((char) ('a' + random.nextInt(heads))).append(blank()).append('c')
                .append((char) ('a' + random.nextInt(chairs))).append(blank()).append(random.nextInt(span)).append(';');
        }
        if (random.nextBoolean()) {
            out.append("keeps=").append(livelyLaw()).append(";passes=").append(livelyLaw()).append(';');
        }
        for (int i = random.nextInt(7); i > 0; i--) {
            out.append(Model.LAWS.get(random.nextInt(4))).append('=').append(law()).append(';').append(blank());
        }
        settings(out);
        return out.toString();
    }

    private void settings(StringBuilder out) {
        if (random.nextInt(3) > 0) {
            out.append("says ").append(1 + random.nextInt(random.nextInt(4) == 0 ? 150 : 60)).append(';');
        }
        if (random.nextBoolean()) {
            out.append("moth ").append(random.nextInt(random.nextInt(3) == 0 ? 101 : 20)).append(';');
        }
        if (random.nextBoolean()) {
            out.append("seed ").append(random.nextInt(10000)).append(';');
        }
        if (random.nextBoolean()) {
            out.append("monday ").append(random.nextInt(random.nextInt(4) == 0 ? 31 : 4)).append(';');
        }
    }

    /** Laws that move much, so that heads come to say what they did not. */
    private String livelyLaw() {
        String[] laws = {" own", " cloth", " own/2", " cloth/2", " own-oil", " cloth-mesh", " if own < cloth then cloth else own/3",
            " own*mesh/9+1", " if cloth<own then own - cloth else cloth", " (cloth+own)/(sat+1)", " if hour<12 then own else cloth",
            " if which < 2 then own else cloth/2", " if thought < 2 then 40 else 5", " all/4", " if sat < 1 then own else cloth",
            " 9-mesh", " oil", " if which<1 then own else 0", " if 0<which then cloth else 0"};
        return laws[random.nextInt(laws.length)];
    }

    private String law() {
        if (random.nextBoolean()) {
            return livelyLaw();
        }
        StringBuilder out = new StringBuilder();
        for (int i = random.nextInt(2) * random.nextInt(5); i > 0; i--) {
            out.append(" if ").append(sum(4)).append('<').append(sum(4)).append("then ").append(sum(3)).append(" else ");
        }
        return out.append(sum(random.nextInt(12) == 0 ? 0 : 2)).toString();
    }

    private String sum(int depth) {
        StringBuilder out = new StringBuilder(product(depth));
        for (int i = random.nextInt(3) * random.nextInt(2); i > 0; i--) {
            out.append(random.nextBoolean() ? '+' : '-').append(product(depth));
        }
        return out.toString();
    }

    private String product(int depth) {
        StringBuilder out = new StringBuilder(unit(depth));
        for (int i = random.nextInt(3) * random.nextInt(2); i > 0; i--) {
            out.append(random.nextBoolean() ? '*' : '/').append(unit(depth));
        }
        return out.toString();
    }

    private String unit(int depth) {
        int kind = random.nextInt(8);
        if (kind == 0 && depth < 6) {
            return "(" + sum(depth + 1) + ")";
        }
        if (kind < 3) {
            return Integer.toString(random.nextInt(random.nextInt(5) == 0 ? 10000 : 12));
        }
        return " " + Model.VARS.get(random.nextInt(9)) + " ";
    }

    /** A text with something in it that should not be there, or too much of it. */
    private String broken() {
        StringBuilder out = new StringBuilder(text());
        if (random.nextInt(6) == 0) {
            String[] long1 = {"says 5;", "keeps=1;", "chair q 1;", "head q 1 2 3 4 5;", "visit ha ca 1;", "fades=((((((1))))));",
                "fades=(((((((1)))))));", "washes=if 1<2then 3else if 1<2then 3else if 1<2then 3else if 1<2then 3else if 1<2then 3else 4;"};
            String more = long1[random.nextInt(long1.length)];
            for (int i = random.nextInt(140); i > 0; i--) {
                out.append(more);
            }
        }
        for (int i = random.nextInt(3); i > 0; i--) {
            breakOne(out);
        }
        for (int i = random.nextInt(3); i > 0; i--) {
            turnOne(out);
        }
        out.setLength(Math.min(out.length(), 2000));
        return out.toString();
    }

    /** Another number, or another name, in the place of one. */
    private void turnOne(StringBuilder out) {
        List<Model.Token> tokens = Model.tokens(out.toString());
        if (tokens.isEmpty()) {
            return;
        }
        Model.Token token = tokens.get(random.nextInt(tokens.size()));
        int end = token.place() + token.text().length();
        if (token.sort().equals("INT")) {
            int[] numbers = {0, 9, 10, 23, 24, 30, 31, 99, 100, 101, 999, 1000, 9999};
            out.replace(token.place(), end, Integer.toString(numbers[random.nextInt(numbers.length)]));
        } else if (token.sort().equals("NAME")) {
            String[] names = {"ca", "cb", "ha", "hb", "hc", "zz", "eightsig"};
            out.replace(token.place(), end, names[random.nextInt(names.length)]);
        }
    }

    private void breakOne(StringBuilder out) {
        String[] bits = {"chair", "head", "visit", "x", "ninechars", "12345", "10", "100", "24", "0", "(", ")", "if 1<2 then", "else",
            "?", "A", "=", ";", "<", "+", "all", "says 0;", "says 999;", "says 1000;", "moth 101;", "monday 31;", "chair ca 1;",
            "head ha 1 1 1 1 1;", "head ca 1 1 1 1 100;", "visit ca ha 3;", "visit zz ca 3;", "visit ha zz 24;", "\u0000", "\u00e9"};
        int place = random.nextInt(out.length() + 1);
        int kind = random.nextInt(6);
        if (kind == 0) {
            out.setLength(place);
        } else if (kind == 1 && place < out.length()) {
            out.deleteCharAt(place);
        } else if (kind == 2 && place < out.length()) {
            out.setCharAt(place, (char) random.nextInt(256));
        } else if (kind == 3) {
            int semicolon = out.indexOf(";", place);
            out.insert(semicolon < 0 ? out.length() : semicolon + 1, bits[random.nextInt(bits.length)]);
        } else {
            out.insert(place, bits[random.nextInt(bits.length)]);
        }
    }
}
