import java.nio.charset.StandardCharsets;
import java.util.ArrayDeque;
import java.util.ArrayList;
import java.util.Arrays;
import java.util.Collections;
import java.util.Deque;
import java.util.HashMap;
import java.util.HashSet;
import java.util.LinkedHashMap;
import java.util.List;
import java.util.Map;
import java.util.Set;
import java.util.regex.Matcher;
import java.util.regex.Pattern;

/** The document again, as plainly and as slowly as it reads: what ModelTest holds HeadCloths against. */
final class Model {
    static final Set<String> WORDS = Set.of("chair", "head", "visit", "keeps", "passes", "washes", "fades", "monday",
        "says", "moth", "seed", "if", "then", "else", "mesh", "oil", "thought", "cloth", "own", "hour", "sat", "which", "all");
    static final List<String> VARS = List.of("mesh", "oil", "thought", "cloth", "own", "hour", "sat", "which", "all");
    static final List<String> LAWS = List.of("keeps", "passes", "washes", "fades");

    record Token(String sort, String text, int place) { }

    record Fault(int number, int place) { }

    /** Null where something was divided by 0. */
    interface Law {
        Integer tell(int[] vars);
    }

    static final class World {
        int[][] squares;
        int[][] owns;
        int[] satIn;
        int[] satBy;
        boolean[] starched;
        boolean[] kept;
        int hour;
        int suds;

        World(int chairs, int heads, int visits) {
            squares = new int[chairs][4];
            owns = new int[heads][4];
            satIn = new int[chairs];
            satBy = new int[heads];
            starched = new boolean[chairs];
            kept = new boolean[visits];
            Arrays.fill(kept, true);
        }

        World copy() {
            World w = new World(squares.length, owns.length, kept.length);
            for (int i = 0; i < squares.length; i++) w.squares[i] = squares[i].clone();
            for (int i = 0; i < owns.length; i++) w.owns[i] = owns[i].clone();
            w.satIn = satIn.clone();
            w.satBy = satBy.clone();
            w.starched = starched.clone();
            w.kept = kept.clone();
            w.hour = hour;
            w.suds = suds;
            return w;
        }
    }

    static final class Book {
        List<Integer> meshes = new ArrayList<>();
        List<Integer> oils = new ArrayList<>();
        List<int[]> owns = new ArrayList<>();
        List<int[]> visits = new ArrayList<>();
        Map<String, Law> laws = new HashMap<>();
        Map<String, Integer> settings = new HashMap<>();

        Book() {
            laws.put("keeps", v -> 1);
            laws.put("passes", v -> 1);
            laws.put("washes", v -> v[3]);
            laws.put("fades", v -> 0);
            settings.putAll(Map.of("monday", 0, "says", 50, "moth", 0, "seed", 0));
        }
    }

    String tape = "";
    int place = -1;
    Book book = new Book();
    World now = new World(0, 0, 0);
    final Deque<World> undone = new ArrayDeque<>();
    final World[] slots = new World[3];
    final List<int[]> told = new ArrayList<>();

    // ---- the text

    int feed(int a, int b, int c, int d, int e) {
        if (tape.length() + 20 > 2000) return -1;
        byte[] bytes = java.nio.ByteBuffer.allocate(20).putInt(a).putInt(b).putInt(c).putInt(d).putInt(e).array();
        tape += new String(bytes, StandardCharsets.ISO_8859_1);
        return tape.length();
    }

    int back(int n) {
        if (n < 0 || n > tape.length()) return -1;
        tape = tape.substring(0, tape.length() - n);
        return tape.length();
    }

    static List<Token> tokens(String text) {
        List<Token> all = new ArrayList<>();
        Matcher m = Pattern.compile("[\\t\\n\\r ]+|([a-z]+)|([0-9]+)|([;=+\\-*/<()])|([\\x00-\\xff])").matcher(text);
        while (m.find()) {
            String t = m.group();
            if (m.group(1) != null) {
                all.add(new Token(t.length() > 8 ? "?" : WORDS.contains(t) ? t : "NAME", t, m.start()));
            } else if (m.group(2) != null) {
                all.add(new Token(t.length() > 4 ? "?" : "INT", t, m.start()));
            } else if (m.group(3) != null) {
                all.add(new Token(t, t, m.start()));
            } else if (m.group(4) != null) {
                all.add(new Token("?", t, m.start()));
            }
        }
        return all;
    }

    static final Map<String, List<List<String>>> GRAMMAR = grammar();

    static Map<String, List<List<String>>> grammar() {
        Map<String, List<List<String>>> g = new LinkedHashMap<>();
        String[] rules = {
            "TEXT:", "TEXT:TELL TEXT",
            "TELL:chair NAME INT ;", "TELL:head NAME INT INT INT INT INT ;", "TELL:visit NAME NAME INT ;",
            "TELL:keeps LAW ;", "TELL:passes LAW ;", "TELL:washes LAW ;", "TELL:fades LAW ;",
            "TELL:monday INT ;", "TELL:says INT ;", "TELL:moth INT ;", "TELL:seed INT ;",
            "LAW:= REST", "REST:if E < E then E else REST", "REST:E",
            "E:PART MORE", "MORE:", "MORE:+ PART MORE", "MORE:- PART MORE",
            "PART:UNIT TIMES", "TIMES:", "TIMES:* UNIT TIMES", "TIMES:/ UNIT TIMES",
            "UNIT:INT", "UNIT:VAR", "UNIT:( E )"};
        for (String rule : rules) {
            String[] sides = rule.split(":", -1);
            List<String> right = sides[1].isEmpty() ? List.of() : List.of(sides[1].split(" "));
            g.computeIfAbsent(sides[0], k -> new ArrayList<>()).add(right);
        }
        for (String v : VARS) g.computeIfAbsent("VAR", k -> new ArrayList<>()).add(List.of(v));
        return g;
    }

    /** All the ways on, as stacks with their tops at the end, down to a told symbol on top (or to nothing). */
    static Set<List<String>> opened(Set<List<String>> stacks) {
        Set<List<String>> seen = new HashSet<>();
        Set<List<String>> out = new HashSet<>();
        Deque<List<String>> todo = new ArrayDeque<>(stacks);
        while (!todo.isEmpty()) {
            List<String> stack = todo.pop();
            if (!seen.add(stack)) continue;
            if (stack.isEmpty() || !GRAMMAR.containsKey(stack.get(stack.size() - 1))) {
                out.add(stack);
                continue;
            }
            for (List<String> right : GRAMMAR.get(stack.get(stack.size() - 1))) {
                List<String> next = new ArrayList<>(stack.subList(0, stack.size() - 1));
                List<String> turned = new ArrayList<>(right);
                Collections.reverse(turned);
                next.addAll(turned);
                todo.push(next);
            }
        }
        return out;
    }

    static Fault syntax(List<Token> tokens, int length) {
        Set<List<String>> stacks = opened(Set.of(List.of("TEXT")));
        for (Token t : tokens) {
            Set<List<String>> next = new HashSet<>();
            for (List<String> stack : stacks) {
                if (!stack.isEmpty() && stack.get(stack.size() - 1).equals(t.sort)) {
                    next.add(new ArrayList<>(stack.subList(0, stack.size() - 1)));
                }
            }
            if (next.isEmpty()) return new Fault(1, t.place);
            stacks = opened(next);
        }
        return stacks.contains(List.<String>of()) ? null : new Fault(1, length);
    }

    static Fault room(List<Token> tokens) {
        Map<String, Integer> most = Map.of("chair", 4, "head", 5, "visit", 10, "if", 4, "(", 6);
        Map<String, Integer> seen = new HashMap<>();
        for (int i = 0; i < tokens.size(); i++) {
            Token t = tokens.get(i);
            if (i == 400) return new Fault(2, t.place);
            if (LAWS.contains(t.sort)) seen.put("if", 0);
            if (t.sort.equals(")")) seen.merge("(", -1, Integer::sum);
            if (most.containsKey(t.sort) && seen.merge(t.sort, 1, Integer::sum) > most.get(t.sort)) return new Fault(2, t.place);
        }
        return null;
    }

    int read() {
        String text = tape;
        tape = "";
        List<Token> tokens = tokens(text);
        Fault one = syntax(tokens.subList(0, Math.min(tokens.size(), 420)), text.length());
        Fault two = room(tokens);
        Fault first = one == null ? two : two == null || one.place <= two.place ? one : two;
        Book next = new Book();
        if (first == null) first = meaning(tokens, next);
        place = first == null ? -1 : first.place;
        if (first != null) return first.number;
        book = next;
        now = new World(book.meshes.size(), book.owns.size(), book.visits.size());
        for (int i = 0; i < book.owns.size(); i++) now.owns[i] = book.owns.get(i).clone();
        undone.clear();
        told.clear();
        Arrays.fill(slots, null);
        return 0;
    }

    static int value(Token t) {
        return Integer.parseInt(t.text);
    }

    static Fault meaning(List<Token> tokens, Book b) {
        List<Fault> faults = new ArrayList<>();
        List<String> chairs = new ArrayList<>();
        List<String> heads = new ArrayList<>();
        List<Token> tell = new ArrayList<>();
        for (Token t : tokens) {
            tell.add(t);
            if (t.sort.equals(";")) {
                understand(tell, b, chairs, heads, faults);
                tell.clear();
            }
        }
        return faults.stream().min((x, y) -> x.place != y.place ? x.place - y.place : x.number - y.number).orElse(null);
    }

    static void understand(List<Token> tell, Book b, List<String> chairs, List<String> heads, List<Fault> faults) {
        String word = tell.get(0).text;
        Token name = tell.get(1);
        if (word.equals("chair") || word.equals("head")) {
            if (chairs.contains(name.text) || heads.contains(name.text)) faults.add(new Fault(3, name.place));
            for (int i = 2; i < tell.size() - 1; i++) range(tell.get(i), 0, i == 2 ? 9 : 99, faults);
            if (word.equals("chair")) {
                chairs.add(name.text);
                b.meshes.add(value(tell.get(2)));
            } else {
                heads.add(name.text);
                b.oils.add(value(tell.get(2)));
                b.owns.add(new int[] {value(tell.get(3)), value(tell.get(4)), value(tell.get(5)), value(tell.get(6))});
            }
        } else if (word.equals("visit")) {
            Token other = tell.get(2);
            if (!heads.contains(name.text)) faults.add(new Fault(4, name.place));
            if (!chairs.contains(other.text)) faults.add(new Fault(4, other.place));
            range(tell.get(3), 0, 23, faults);
            b.visits.add(new int[] {heads.indexOf(name.text), chairs.indexOf(other.text), value(tell.get(3))});
        } else if (LAWS.contains(word)) {
            b.laws.put(word, law(new ArrayDeque<>(tell.subList(2, tell.size() - 1))));
        } else {
            int[] bounds = Map.of("monday", new int[] {0, 30}, "says", new int[] {1, 999}, "moth", new int[] {0, 100},
                "seed", new int[] {0, 9999}).get(word);
            range(name, bounds[0], bounds[1], faults);
            b.settings.put(word, value(name));
        }
    }

    static void range(Token t, int low, int high, List<Fault> faults) {
        if (value(t) < low || value(t) > high) faults.add(new Fault(5, t.place));
    }

    static Law law(Deque<Token> in) {
        if (!in.peek().sort.equals("if")) return sum(in);
        in.pop();
        Law left = sum(in);
        in.pop();
        Law right = sum(in);
        in.pop();
        Law yes = sum(in);
        in.pop();
        Law no = law(in);
        return v -> {
            Integer a = left.tell(v);
            Integer b = right.tell(v);
            return a == null || b == null ? null : (int) a < (int) b ? yes.tell(v) : no.tell(v);
        };
    }

    static Law sum(Deque<Token> in) {
        Law out = product(in);
        while (!in.isEmpty() && (in.peek().sort.equals("+") || in.peek().sort.equals("-"))) {
            boolean plus = in.pop().sort.equals("+");
            Law left = out;
            Law right = product(in);
            out = v -> {
                Integer a = left.tell(v);
                Integer b = right.tell(v);
                return a == null || b == null ? null : (Integer) (int) (plus ? (long) a + b : (long) a - b);
            };
        }
        return out;
    }

    static Law product(Deque<Token> in) {
        Law out = unit(in);
        while (!in.isEmpty() && (in.peek().sort.equals("*") || in.peek().sort.equals("/"))) {
            boolean times = in.pop().sort.equals("*");
            Law left = out;
            Law right = unit(in);
            out = v -> {
                Integer a = left.tell(v);
                Integer b = right.tell(v);
                if (a == null || b == null || !times && b == 0) return null;
                return (int) (times ? (long) a * b : (long) a / b);
            };
        }
        return out;
    }

    static Law unit(Deque<Token> in) {
        Token t = in.pop();
        if (t.sort.equals("(")) {
            Law inner = sum(in);
            in.pop();
            return inner;
        }
        int which = VARS.indexOf(t.text);
        int number = which < 0 ? value(t) : 0;
        return v -> which < 0 ? number : v[which];
    }

    // ---- what happens

    int setting(String name) {
        return book.settings.get(name);
    }

    int law(World w, String name, int chair, int head, int thought) {
        boolean fades = name.equals("fades");
        boolean washes = name.equals("washes");
        int cloth = fades ? 0 : w.squares[chair][thought];
        int own = washes ? 0 : w.owns[head][thought];
        int[] vars = {
            fades ? 0 : book.meshes.get(chair), washes ? 0 : book.oils.get(head), thought, cloth, own, w.hour % 24,
            fades ? w.satBy[head] : w.satIn[chair], washes ? chair : head,
            fades ? Arrays.stream(w.owns[head]).sum() : Arrays.stream(w.squares[chair]).sum()};
        Integer told = book.laws.get(name).tell(vars);
        int most = name.equals("keeps") || fades ? own : cloth;
        return told == null || told < 0 ? 0 : told > most ? most : told;
    }

    void sitting(World w, int head, int chair) {
        World was = w.copy();
        for (int t = 0; t < 4 && !was.starched[chair]; t++) {
            int keeps = law(was, "keeps", chair, head, t);
            int passes = law(was, "passes", chair, head, t);
            w.owns[head][t] += passes - keeps;
            w.squares[chair][t] += keeps - passes;
        }
        w.satIn[chair]++;
        w.satBy[head]++;
    }

    int washing(World w, int chair) {
        World was = w.copy();
        int all = 0;
        for (int t = 0; t < 4; t++) {
            int out = law(was, "washes", chair, -1, t);
            w.squares[chair][t] -= out;
            all += out;
        }
        w.suds += all;
        w.starched[chair] = false;
        return all;
    }

    static int lot(int n, int seed, int which) {
        long h = seed;
        for (long it : new long[] {153, which}) {
            h = (h ^ it) & 0xffffffffL;
            h = (h * 1103515245L + 12345L) & 0xffffffffL;
            h = h ^ (h / 32768);
        }
        return (int) ((h / 2) % n);
    }

    void hour(World w, boolean moths, int seed) {
        for (int i = 0; i < book.visits.size(); i++) {
            int[] visit = book.visits.get(i);
            if (w.kept[i] && visit[2] == w.hour % 24) sitting(w, visit[0], visit[1]);
        }
        World was = w.copy();
        if (moths && w.squares.length > 0 && lot(100, seed, 8 * w.hour) < setting("moth")) {
            int chair = lot(w.squares.length, seed, 8 * w.hour + 1);
            w.suds += Arrays.stream(w.squares[chair]).sum();
            w.squares[chair] = new int[4];
        }
        for (int h = 0; h < w.owns.length; h++) {
            for (int t = 0; t < 4; t++) {
                int out = law(was, "fades", -1, h, t);
                w.owns[h][t] -= out;
                w.suds += out;
            }
        }
        int monday = setting("monday");
        if (monday > 0 && w.hour % 24 == 23 && (w.hour / 24 + 1) % monday == 0) {
            for (int c = 0; c < w.squares.length; c++) washing(w, c);
        }
        w.hour++;
    }

    World in(World from, int n, boolean moths, int seed) {
        World w = from.copy();
        for (int i = 0; i < n; i++) hour(w, moths, seed);
        return w;
    }

    boolean says(World w, int head, int thought) {
        return w.owns[head][thought] >= setting("says");
    }

    boolean isChair(int c) {
        return c >= 0 && c < now.squares.length;
    }

    boolean isHead(int h) {
        return h >= 0 && h < now.owns.length;
    }

    boolean isVisit(int v) {
        return v >= 0 && v < now.kept.length;
    }

    static boolean in(int x, int low, int high) {
        return x >= low && x <= high;
    }

    void done() {
        undone.push(now.copy());
        if (undone.size() > 40) undone.removeLast();
    }

    // ---- the face

    int place() {
        return place;
    }

    int chair(int c, int what) {
        if (!isChair(c) || !in(what, 0, 6)) return -1;
        return what < 4 ? now.squares[c][what] : what == 4 ? book.meshes.get(c) : what == 5 ? (now.starched[c] ? 1 : 0) : now.satIn[c];
    }

    int saysBits(World w, int head) {
        int bits = 0;
        for (int t = 0; t < 4; t++) if (says(w, head, t)) bits += 1 << t;
        return bits;
    }

    int head(int h, int what) {
        if (!isHead(h) || !in(what, 0, 6)) return -1;
        return what < 4 ? now.owns[h][what] : what == 4 ? book.oils.get(h) : what == 5 ? saysBits(now, h) : now.satBy[h];
    }

    int visit(int v, int what) {
        if (!isVisit(v) || !in(what, 0, 3)) return -1;
        return what < 3 ? book.visits.get(v)[what] : now.kept[v] ? 1 : 0;
    }

    int tells(int c, int h, int t, int what) {
        if (!in(what, 0, 3) || !in(t, 0, 3) || what != 3 && !isChair(c) || what != 2 && !isHead(h)) return -1;
        return law(now, LAWS.get(what), c, h, t);
    }

    boolean sit(int h, int c) {
        if (!isHead(h) || !isChair(c)) return false;
        done();
        sitting(now, h, c);
        return true;
    }

    int wash(int c) {
        if (!isChair(c)) return -1;
        done();
        return washing(now, c);
    }

    boolean starch(int c) {
        if (!isChair(c) || now.starched[c]) return false;
        done();
        now.starched[c] = true;
        return true;
    }

    boolean change(int c, int o) {
        if (!isChair(c) || !isChair(o) || c == o) return false;
        done();
        World was = now.copy();
        now.squares[c] = was.squares[o];
        now.squares[o] = was.squares[c];
        now.starched[c] = was.starched[o];
        now.starched[o] = was.starched[c];
        return true;
    }

    boolean keep(int v, boolean on) {
        if (!isVisit(v) || now.kept[v] == on) return false;
        done();
        now.kept[v] = on;
        return true;
    }

    int hours(int n) {
        if (!in(n, 0, 72)) return -1;
        if (n > 0) done();
        now = in(now, n, true, setting("seed"));
        return now.hour;
    }

    boolean undo() {
        if (undone.isEmpty()) return false;
        now = undone.pop();
        return true;
    }

    List<Integer> path(World w, int h, int t, int size) {
        if (size == 0) return says(w, h, t) ? new ArrayList<>() : null;
        for (int a = 0; a < w.owns.length; a++) {
            for (int c = 0; c < w.squares.length; c++) {
                World next = w.copy();
                sitting(next, a, c);
                List<Integer> rest = path(next, h, t, size - 1);
                if (rest != null) {
                    rest.add(0, 10 * a + c);
                    return rest;
                }
            }
        }
        return null;
    }

    int sittings(int h, int t, int i) {
        if (!isHead(h) || !in(t, 0, 3) || !in(i, -1, 2)) return -1;
        List<Integer> found = null;
        for (int size = 0; size <= 3 && found == null; size++) found = path(now, h, t, size);
        if (found == null) return -2;
        return i == -1 ? found.size() : i < found.size() ? found.get(i) : -1;
    }

    int alone(int h, int c, int t) {
        if (!isHead(h) || !isChair(c) || !in(t, 0, 3)) return -1;
        World w = now.copy();
        for (int n = 0; n <= 60; n++) {
            if (says(w, h, t)) return n;
            sitting(w, h, c);
        }
        return -2;
    }

    int gain(int h, int c, int t) {
        if (!isHead(h) || !isChair(c) || !in(t, 0, 3)) return -100000;
        World w = now.copy();
        sitting(w, h, c);
        return w.owns[h][t] - now.owns[h][t];
    }

    /** The first of the greatest. */
    static int best(List<Integer> values) {
        return values.isEmpty() ? -2 : values.indexOf(Collections.max(values));
    }

    int bestChair(int h, int t) {
        if (!isHead(h) || !in(t, 0, 3)) return -1;
        List<Integer> gains = new ArrayList<>();
        for (int c = 0; c < now.squares.length; c++) gains.add(gain(h, c, t));
        return best(gains);
    }

    int most(int t, int what) {
        if (!in(t, 0, 3) || !in(what, 0, 1)) return -1;
        List<Integer> amounts = new ArrayList<>();
        for (int[] row : what == 0 ? now.owns : now.squares) amounts.add(row[t]);
        return best(amounts);
    }

    int when(int h, int t) {
        if (!isHead(h) || !in(t, 0, 3)) return -1;
        World w = now.copy();
        for (int n = 0; n <= 200; n++) {
            if (says(w, h, t)) return n;
            hour(w, false, 0);
        }
        return -2;
    }

    int sayers(World w, int t) {
        int bits = 0;
        for (int h = 0; h < w.owns.length; h++) if (says(w, h, t)) bits += 1 << h;
        return bits;
    }

    int meet(int t, int o, int n) {
        if (!in(t, 0, 3) || !in(o, 0, 3) || t == o || !in(n, 0, 72)) return -1;
        World w = in(now, n, false, 0);
        return sayers(w, t) & sayers(w, o);
    }

    int without(int v, int t, int n) {
        if (!isVisit(v) || !in(t, 0, 3) || !in(n, 1, 72)) return -1;
        World w = now.copy();
        w.kept[v] = false;
        return in(w, n, false, 0).owns[book.visits.get(v)[0]][t];
    }

    static int pair(int[][] rows, int what) {
        if (!in(what, 0, 1)) return -1;
        List<int[]> pairs = new ArrayList<>();
        for (int a = 0; a < rows.length; a++) {
            for (int b = a + 1; b < rows.length; b++) {
                int by = 0;
                for (int t = 0; t < 4; t++) by += Math.abs(rows[a][t] - rows[b][t]);
                pairs.add(new int[] {10 * a + b, by});
            }
        }
        return pairs.stream().min((x, y) -> x[1] != y[1] ? x[1] - y[1] : x[0] - y[0]).map(p -> p[what]).orElse(-2);
    }

    int alike(int what) {
        return pair(now.squares, what);
    }

    int agree(int what) {
        return pair(now.owns, what);
    }

    int fullest(int what) {
        if (!in(what, 0, 1)) return -1;
        List<Integer> sums = new ArrayList<>();
        for (int[] row : now.owns) sums.add(Arrays.stream(row).sum());
        return what == 0 || sums.isEmpty() ? best(sums) : Collections.max(sums);
    }

    int share(int c, int t) {
        if (!isChair(c) || !in(t, 0, 3)) return -1;
        int all = Arrays.stream(now.squares[c]).sum();
        return all == 0 ? 0 : now.squares[c][t] * 1000 / all;
    }

    int foremost(int h) {
        if (!isHead(h)) return -1;
        List<Integer> amounts = new ArrayList<>();
        for (int x : now.owns[h]) amounts.add(x);
        return best(amounts);
    }

    int saysIn(int h, int n) {
        return !isHead(h) || !in(n, 0, 72) ? -1 : saysBits(in(now, n, true, setting("seed")), h);
    }

    int silent(int t) {
        if (!in(t, 0, 3)) return -1;
        World w = now.copy();
        for (int n = 0; n <= 200; n++) {
            if (sayers(w, t) == 0) return n;
            hour(w, false, 0);
        }
        return -2;
    }

    int lost(int n) {
        return in(n, 0, 72) ? in(now, n, false, 0).suds - now.suds : -1;
    }

    int clean(int what) {
        if (!in(what, 0, 1)) return -1;
        List<Integer> amounts = new ArrayList<>();
        for (int c = 0; c < now.squares.length; c++) amounts.add(washing(now.copy(), c));
        return what == 0 || amounts.isEmpty() ? best(amounts) : Collections.max(amounts);
    }

    int headIn(int h, int t, int n) {
        return !isHead(h) || !in(t, 0, 3) || !in(n, 0, 72) ? -1 : in(now, n, true, setting("seed")).owns[h][t];
    }

    int chairIn(int c, int t, int n) {
        return !isChair(c) || !in(t, 0, 3) || !in(n, 0, 72) ? -1 : in(now, n, true, setting("seed")).squares[c][t];
    }

    int then(int n, int what) {
        if (!in(n, 0, 72) || !in(what, 0, 4)) return -1;
        World w = in(now, n, true, setting("seed"));
        return what == 4 ? w.suds : sayers(w, what);
    }

    int year(int h, int t, int n, int s) {
        if (!isHead(h) || !in(t, 0, 3) || !in(n, 0, 72) || !in(s, 1, 20)) return -1;
        int found = 0;
        for (int i = 0; i < s; i++) if (says(in(now, n, true, setting("seed") + i), h, t)) found++;
        return found;
    }

    int tell(int c, int t, int v, boolean so) {
        if (!isChair(c) || !in(t, 0, 3) || !in(v, 0, 999) || told.size() == 20) return -1;
        told.add(new int[] {c, t, v, so ? 1 : 0});
        return told.size() - 1;
    }

    int forget() {
        int n = told.size();
        told.clear();
        return n;
    }

    boolean isSo(int h, int c, int t, int v, int so) {
        World w = now.copy();
        sitting(w, h, c);
        return (w.squares[c][t] >= v) == (so == 1);
    }

    List<Integer> left(int k) {
        List<Integer> heads = new ArrayList<>();
        for (int h = 0; h < now.owns.length; h++) {
            int head = h;
            if (told.subList(0, k).stream().allMatch(x -> isSo(head, x[0], x[1], x[2], x[3]))) heads.add(h);
        }
        return heads;
    }

    int who(int k, int what) {
        if (!in(k, 0, told.size()) || !in(what, 0, 1)) return -1;
        return what == 0 ? left(k).size() : left(k).stream().mapToInt(h -> 1 << h).sum();
    }

    int look(int k, int v) {
        if (!in(k, 0, told.size()) || !in(v, 0, 999)) return -1;
        List<Integer> left = left(k);
        int best = -2;
        long fewest = Long.MAX_VALUE;
        for (int c = 0; c < now.squares.length && !left.isEmpty(); c++) {
            for (int t = 0; t < 4; t++) {
                int chair = c;
                int thought = t;
                long yes = left.stream().filter(h -> isSo(h, chair, thought, v, 1)).count();
                long worst = Math.max(yes, left.size() - yes);
                if (worst < fewest) {
                    fewest = worst;
                    best = 10 * c + t;
                }
            }
        }
        return best;
    }

    boolean hold(int slot) {
        if (!in(slot, 0, 2)) return false;
        slots[slot] = now.copy();
        return true;
    }

    boolean restore(int slot) {
        if (!in(slot, 0, 2) || slots[slot] == null) return false;
        now = slots[slot].copy();
        undone.clear();
        return true;
    }

    static int bits(boolean[] row) {
        int bits = 0;
        for (int i = 0; i < row.length; i++) if (row[i]) bits += 1 << i;
        return bits;
    }

    int count(int what) {
        int bits = 0;
        switch (what) {
            case 0: return now.squares.length;
            case 1: return now.owns.length;
            case 2: return now.kept.length;
            case 3: return now.hour;
            case 4: return now.hour % 24;
            case 5: return now.suds;
            case 6: return Arrays.stream(now.squares).flatMapToInt(Arrays::stream).sum() + Arrays.stream(now.owns).flatMapToInt(Arrays::stream).sum();
            case 7: return bits(now.starched);
            case 8: return tape.length();
            case 9: return undone.size();
            case 10: return told.size();
            case 11: return (int) Arrays.stream(slots).filter(s -> s != null).count();
            case 12: return lot(100, setting("seed"), 8 * now.hour) < setting("moth") ? 1 : 0;
            case 13:
                for (int h = 0; h < now.owns.length; h++) if (saysBits(now, h) != 0) bits += 1 << h;
                return bits;
            case 14: return bits(now.kept);
            case 15:
                for (int c = 0; c < now.squares.length; c++) if (Arrays.stream(now.squares[c]).sum() == 0) bits += 1 << c;
                return bits;
            case 16: return Arrays.stream(now.satIn).sum();
            case 17:
                for (int[] row : now.squares) for (int t = 0; t < 4; t++) if (row[t] > 0) bits |= 1 << t;
                return bits;
            case 18: return book.oils.stream().mapToInt(x -> x).sum();
            default: return -1;
        }
    }
}
