/** Chairs whose squares of crochet keep what heads thought; every argument of a call is looked at here, once. */
public final class HeadCloths {
    public static final int NONE = -1;

    private static final int NOT = -2;
    private static final int NO_GAIN = -100000;
    private static final int THOUGHTS = 4;
    private static final int MOST_CHAIRS = 4;
    private static final int MOST_HEADS = 5;
    private static final int MOST_VISITS = 10;
    private static final int DAY = 24;
    private static final int HOURS_AHEAD = 72;
    private static final int HOURS_FAR = 200;
    private static final int SITTINGS_ALONE = 60;
    private static final int FEWEST_LIMIT = 3;
    private static final int MOST_SEEDS = 20;
    private static final int MOST_TOLD = 20;
    private static final int MOST_AMOUNT = 999;

    private final Tape tape;
    private final Reader reader;
    private final Plan plan;
    private final House house;
    private final State now;
    private final Foresight ahead;
    private final Hearsay hearsay;
    private final History history;
    private final Slots slots;

    public HeadCloths() {
        tape = new Tape();
        reader = new Reader(tape);
        plan = new Plan();
        house = new House(plan);
        now = new State();
        ahead = new Foresight(plan, house, now);
        hearsay = new Hearsay(plan, house, now);
        history = new History();
        slots = new Slots();
    }

    public int feed(int a, int b, int c, int d, int e) {
        if (!tape.hasRoomForFeed()) {
            return NONE;
        }
        tape.append(a);
        tape.append(b);
        tape.append(c);
        tape.append(d);
        tape.append(e);
        return tape.length();
    }

    public int back(int n) {
        return tape.cut(n) ? tape.length() : NONE;
    }

    public int read() {
        int fault = reader.readTape();
        tape.clear();
        if (fault == 0) {
            plan.copyFrom(reader.draft());
            now.begin(plan);
            history.clear();
            hearsay.clear();
            slots.clear();
        }
        return fault;
    }

    public int place() {
        return reader.faultPlace();
    }

    public int chair(int chair, int what) {
        if (!plan.hasChair(chair)) {
            return NONE;
        }
        switch (what) {
            case 0:
            case 1:
            case 2:
            case 3:
                return now.cloth(chair, what);
            case 4:
                return plan.meshOf(chair);
            case 5:
                return now.isStarched(chair) ? 1 : 0;
            case 6:
                return now.satIn(chair);
            default:
                return NONE;
        }
    }

    public int head(int head, int what) {
        if (!plan.hasHead(head)) {
            return NONE;
        }
        switch (what) {
            case 0:
            case 1:
            case 2:
            case 3:
                return now.own(head, what);
            case 4:
                return plan.oilOf(head);
            case 5:
                return now.saidBy(head, plan.says);
            case 6:
                return now.satBy(head);
            default:
                return NONE;
        }
    }

    public int visit(int visit, int what) {
        if (!plan.hasVisit(visit)) {
            return NONE;
        }
        switch (what) {
            case 0:
                return plan.visitHead(visit);
            case 1:
                return plan.visitChair(visit);
            case 2:
                return plan.visitHour(visit);
            case 3:
                return now.isKept(visit) ? 1 : 0;
            default:
                return NONE;
        }
    }

    public int tells(int chair, int head, int thought, int what) {
        boolean chairFits = what == Plan.LAW_FADES || plan.hasChair(chair);
        boolean headFits = what == Plan.LAW_WASHES || plan.hasHead(head);
        if (!chairFits || !headFits || !isThought(thought)) {
            return NONE;
        }
        switch (what) {
            case Plan.LAW_KEEPS:
                return house.keptOf(now, head, chair, thought);
            case Plan.LAW_PASSES:
                return house.passedOf(now, head, chair, thought);
            case Plan.LAW_WASHES:
                return house.washedOf(now, chair, thought);
            case Plan.LAW_FADES:
                return house.fadedOf(now, head, thought);
            default:
                return NONE;
        }
    }

    public boolean sit(int head, int chair) {
        if (!plan.hasHead(head) || !plan.hasChair(chair)) {
            return false;
        }
        history.remember(now);
        house.seat(now, head, chair);
        return true;
    }

    public int wash(int chair) {
        if (!plan.hasChair(chair)) {
            return NONE;
        }
        history.remember(now);
        return house.launder(now, chair);
    }

    public boolean starch(int chair) {
        if (!plan.hasChair(chair) || now.isStarched(chair)) {
            return false;
        }
        history.remember(now);
        now.setStarched(chair, true);
        return true;
    }

    public boolean change(int chair, int other) {
        if (!plan.hasChair(chair) || !plan.hasChair(other) || chair == other) {
            return false;
        }
        history.remember(now);
        now.swapSquares(chair, other);
        return true;
    }

    public boolean keep(int visit, boolean on) {
        if (!plan.hasVisit(visit) || now.isKept(visit) == on) {
            return false;
        }
        history.remember(now);
        now.setKept(visit, on);
        return true;
    }

    public int hours(int n) {
        if (!isHours(n)) {
            return NONE;
        }
        if (n > 0) {
            history.remember(now);
            house.pass(now, n, true, plan.seed);
        }
        return now.hour;
    }

    public boolean undo() {
        return history.takeBack(now);
    }

    public int sittings(int head, int thought, int i) {
        if (!plan.hasHead(head) || !isThought(thought) || i < NONE || i >= FEWEST_LIMIT) {
            return NONE;
        }
        int fewest = ahead.fewestSittings(head, thought);
        if (fewest == NOT || i == NONE) {
            return fewest;
        }
        return i < fewest ? ahead.sittingAt(i) : NONE;
    }

    public int alone(int head, int chair, int thought) {
        if (!plan.hasHead(head) || !plan.hasChair(chair) || !isThought(thought)) {
            return NONE;
        }
        return ahead.sittingsAlone(head, chair, thought);
    }

    public int gain(int head, int chair, int thought) {
        if (!plan.hasHead(head) || !plan.hasChair(chair) || !isThought(thought)) {
            return NO_GAIN;
        }
        return house.gainOf(now, head, chair, thought);
    }

    public int bestChair(int head, int thought) {
        if (!plan.hasHead(head) || !isThought(thought)) {
            return NONE;
        }
        return ahead.chairOfMostGain(head, thought);
    }

    public int most(int thought, int what) {
        if (!isThought(thought)) {
            return NONE;
        }
        switch (what) {
            case 0:
                return now.headWithMost(thought, plan.heads);
            case 1:
                return now.chairWithMost(thought, plan.chairs);
            default:
                return NONE;
        }
    }

    public int when(int head, int thought) {
        if (!plan.hasHead(head) || !isThought(thought)) {
            return NONE;
        }
        return ahead.hoursUntilSaid(head, thought);
    }

    public int meet(int thought, int other, int n) {
        if (!isThought(thought) || !isThought(other) || thought == other || !isHours(n)) {
            return NONE;
        }
        State later = ahead.after(n, false);
        return later.sayersOf(thought, plan.heads, plan.says) & later.sayersOf(other, plan.heads, plan.says);
    }

    public int without(int visit, int thought, int n) {
        if (!plan.hasVisit(visit) || !isThought(thought) || n < 1 || !isHours(n)) {
            return NONE;
        }
        return ahead.afterGivingUp(visit, n).own(plan.visitHead(visit), thought);
    }

    public int alike(int what) {
        if (what != 0 && what != 1) {
            return NONE;
        }
        int pair = now.closestChairs(plan.chairs);
        return pair == NOT || what == 0 ? pair : now.squaresApart(pair / 10, pair % 10);
    }

    public int agree(int what) {
        if (what != 0 && what != 1) {
            return NONE;
        }
        int pair = now.closestHeads(plan.heads);
        return pair == NOT || what == 0 ? pair : now.headsApart(pair / 10, pair % 10);
    }

    public int fullest(int what) {
        if (what != 0 && what != 1) {
            return NONE;
        }
        int head = now.fullestHead(plan.heads);
        return head == NOT || what == 0 ? head : now.ownAll(head);
    }

    public int share(int chair, int thought) {
        if (!plan.hasChair(chair) || !isThought(thought)) {
            return NONE;
        }
        int all = now.clothAll(chair);
        return all > 0 ? 1000 * now.cloth(chair, thought) / all : 0;
    }

    public int foremost(int head) {
        return plan.hasHead(head) ? now.thoughtWithMost(head) : NONE;
    }

    public int saysIn(int head, int n) {
        if (!plan.hasHead(head) || !isHours(n)) {
            return NONE;
        }
        return ahead.after(n, true).saidBy(head, plan.says);
    }

    public int silent(int thought) {
        return isThought(thought) ? ahead.hoursUntilSilent(thought) : NONE;
    }

    public int lost(int n) {
        return isHours(n) ? ahead.after(n, false).suds - now.suds : NONE;
    }

    public int clean(int what) {
        if (what != 0 && what != 1) {
            return NONE;
        }
        int chair = ahead.chairOfMostSuds();
        return chair == NOT || what == 0 ? chair : house.washedOfAll(now, chair);
    }

    public int headIn(int head, int thought, int n) {
        if (!plan.hasHead(head) || !isThought(thought) || !isHours(n)) {
            return NONE;
        }
        return ahead.after(n, true).own(head, thought);
    }

    public int chairIn(int chair, int thought, int n) {
        if (!plan.hasChair(chair) || !isThought(thought) || !isHours(n)) {
            return NONE;
        }
        return ahead.after(n, true).cloth(chair, thought);
    }

    public int then(int n, int what) {
        if (!isHours(n) || what < 0 || what > THOUGHTS) {
            return NONE;
        }
        State later = ahead.after(n, true);
        return what == THOUGHTS ? later.suds : later.sayersOf(what, plan.heads, plan.says);
    }

    public int year(int head, int thought, int n, int s) {
        if (!plan.hasHead(head) || !isThought(thought) || !isHours(n) || s < 1 || s > MOST_SEEDS) {
            return NONE;
        }
        return ahead.seedsThatSay(head, thought, n, s);
    }

    public int tell(int chair, int thought, int v, boolean so) {
        if (!plan.hasChair(chair) || !isThought(thought) || !isAmount(v)) {
            return NONE;
        }
        return hearsay.note(chair, thought, v, so);
    }

    public int forget() {
        int told = hearsay.size();
        hearsay.clear();
        return told;
    }

    public int who(int k, int what) {
        if (k < 0 || k > hearsay.size() || what != 0 && what != 1) {
            return NONE;
        }
        int heads = hearsay.headsLeft(k);
        return what == 0 ? Integer.bitCount(heads) : heads;
    }

    public int look(int k, int v) {
        if (k < 0 || k > hearsay.size() || !isAmount(v)) {
            return NONE;
        }
        return hearsay.bestQuestion(k, v);
    }

    public boolean hold(int slot) {
        return slots.put(slot, now);
    }

    public boolean restore(int slot) {
        if (!slots.fetch(slot, now)) {
            return false;
        }
        history.clear();
        return true;
    }

    public int count(int what) {
        switch (what) {
            case 0:
                return plan.chairs;
            case 1:
                return plan.heads;
            case 2:
                return plan.visits;
            case 8:
                return tape.length();
            case 9:
                return history.size();
            case 10:
                return hearsay.size();
            case 11:
                return slots.filled();
            case 12:
                return house.hasMoth(now, plan.seed) ? 1 : 0;
            case 18:
                return plan.oilOfAll();
            default:
                return countOfState(what);
        }
    }

    private int countOfState(int what) {
        switch (what) {
            case 3:
                return now.hour;
            case 4:
                return now.hourOfDay();
            case 5:
                return now.suds;
            case 6:
                return now.everything();
            case 7:
                return now.starched;
            case 13:
                return now.sayers(plan.heads, plan.says);
            case 14:
                return now.kept;
            case 15:
                return now.emptySquares(plan.chairs);
            case 16:
                return now.satEver();
            case 17:
                return now.thoughtsInSquares();
            default:
                return NONE;
        }
    }

    private static boolean isThought(int thought) {
        return thought >= 0 && thought < THOUGHTS;
    }

    private static boolean isHours(int n) {
        return n >= 0 && n <= HOURS_AHEAD;
    }

    private static boolean isAmount(int v) {
        return v >= 0 && v <= MOST_AMOUNT;
    }

    /** The bytes that were fed and not read yet. */
    private static final class Tape {
        private static final int ROOM = 2000;
        private static final int FEED = 20;

        private final byte[] bytes = new byte[ROOM];
        private int length = 0;

        int length() {
            return length;
        }

        boolean hasRoomForFeed() {
            return length + FEED <= ROOM;
        }

        void append(int word) {
            for (int shift = 24; shift >= 0; shift -= 8) {
                if (length >= 0 && length < bytes.length) {
                    bytes[length] = (byte) (word >>> shift);
                    length++;
                }
            }
        }

        boolean cut(int n) {
            if (n < 0 || n > length) {
                return false;
            }
            length -= n;
            return true;
        }

        void clear() {
            length = 0;
        }

        /** Behind the end it answers NONE, which is no byte. */
        int byteAt(int i) {
            return i >= 0 && i < length && i < bytes.length ? bytes[i] & 255 : NONE;
        }
    }

    /** The tokens of a tape, as rows; the last one is the end, or what is no token, or the first one too many. */
    private static final class Tokens {
        static final int CHAIR = 0;
        static final int HEAD = 1;
        static final int VISIT = 2;
        static final int KEEPS = 3;
        static final int FADES = 6;
        static final int MONDAY = 7;
        static final int SAYS = 8;
        static final int MOTH = 9;
        static final int SEED = 10;
        static final int IF = 11;
        static final int THEN = 12;
        static final int ELSE = 13;
        static final int MESH = 14;
        static final int ALL = 22;
        static final int NAME = 23;
        static final int INT = 24;
        static final int SEMICOLON = 25;
        static final int EQUALS = 26;
        static final int PLUS = 27;
        static final int MINUS = 28;
        static final int TIMES = 29;
        static final int OVER = 30;
        static final int LESS = 31;
        static final int OPEN = 32;
        static final int CLOSE = 33;
        static final int END = 34;
        static final int NO_TOKEN = 35;
        static final int ROOM = 400;

        private static final int WORD_COUNT = 23;
        private static final int LONGEST_NAME = 8;
        private static final int LONGEST_INT = 4;
        private static final String WORDS =
            "chair head visit keeps passes washes fades monday says moth seed if then else mesh oil thought cloth own hour sat which all";
        private static final String SIGNS = ";=+-*/<()";

        private final Tape tape;
        private final long[] words = new long[WORD_COUNT];
        private final int[] kinds = new int[ROOM + 1];
        private final int[] places = new int[ROOM + 1];
        private final int[] numbers = new int[ROOM + 1];
        private final long[] names = new long[ROOM + 1];
        private int size = 0;
        private int next = 0;

        Tokens(Tape tape) {
            this.tape = tape;
            int word = 0;
            for (int i = 0; i < WORDS.length(); i++) {
                char sign = WORDS.charAt(i);
                if (sign == ' ') {
                    word++;
                } else if (word < words.length) {
                    words[word] = lengthened(words[word], sign);
                }
            }
        }

        void scan() {
            next = 0;
            size = 0;
            int kind = NAME;
            for (int i = 0; i < kinds.length && kind != END && kind != NO_TOKEN; i++) {
                skipBlanks();
                places[i] = next;
                kind = scanOne(i);
                kinds[i] = kind;
                size = i + 1;
            }
        }

        int kindAt(int i) {
            return i >= 0 && i < size && i < kinds.length ? kinds[i] : END;
        }

        int placeAt(int i) {
            return i >= 0 && i < size && i < places.length ? places[i] : tape.length();
        }

        int numberAt(int i) {
            return i >= 0 && i < size && i < numbers.length ? numbers[i] : 0;
        }

        long nameAt(int i) {
            return i >= 0 && i < size && i < names.length ? names[i] : 0;
        }

        private void skipBlanks() {
            for (int i = next; i < tape.length() && isBlank(tape.byteAt(i)); i++) {
                next = i + 1;
            }
        }

        private int scanOne(int i) {
            int sign = tape.byteAt(next);
            if (sign == NONE) {
                return END;
            }
            if (isLetter(sign)) {
                return scanWord(i);
            }
            if (isDigit(sign)) {
                return scanNumber(i);
            }
            next++;
            int which = SIGNS.indexOf((char) sign);
            return which < 0 ? NO_TOKEN : SEMICOLON + which;
        }

        private int scanWord(int token) {
            long name = 0;
            int start = next;
            for (int i = start; i < tape.length() && isLetter(tape.byteAt(i)); i++) {
                name = i - start < LONGEST_NAME ? lengthened(name, tape.byteAt(i)) : name;
                next = i + 1;
            }
            if (token >= 0 && token < names.length) {
                names[token] = name;
            }
            return next - start > LONGEST_NAME ? NO_TOKEN : kindOfWord(name);
        }

        private int scanNumber(int token) {
            int number = 0;
            int start = next;
            for (int i = start; i < tape.length() && isDigit(tape.byteAt(i)); i++) {
                number = i - start < LONGEST_INT ? 10 * number + tape.byteAt(i) - '0' : number;
                next = i + 1;
            }
            if (token >= 0 && token < numbers.length) {
                numbers[token] = number;
            }
            return next - start > LONGEST_INT ? NO_TOKEN : INT;
        }

        private int kindOfWord(long name) {
            for (int i = 0; i < words.length; i++) {
                if (words[i] == name) {
                    return i;
                }
            }
            return NAME;
        }

        /** Eight letters fit a long by 27s, so that names need no text objects. */
        private static long lengthened(long name, int letter) {
            return 27 * name + (letter - 'a' + 1);
        }

        private static boolean isBlank(int sign) {
            return sign == 9 || sign == 10 || sign == 13 || sign == 32;
        }

        private static boolean isLetter(int sign) {
            return sign >= 'a' && sign <= 'z';
        }

        private static boolean isDigit(int sign) {
            return sign >= '0' && sign <= '9';
        }
    }

    /** What a text tells; its laws are steps for a stack of numbers. */
    private static final class Plan {
        static final int LAW_KEEPS = 0;
        static final int LAW_PASSES = 1;
        static final int LAW_WASHES = 2;
        static final int LAW_FADES = 3;
        static final int NUMBER = 0;
        static final int VARIABLE = 1;
        static final int ADD = 2;
        static final int SUBTRACT = 3;
        static final int MULTIPLY = 4;
        static final int DIVIDE = 5;
        static final int UNLESS_LESS = 6;
        static final int ANSWER = 7;

        private static final int LAWS = 4;
        private static final int CLOTH = 3;
        private static final int DEFAULT_STEPS = 8;
        private static final int DEFAULT_SAYS = 50;

        private final int[] meshes = new int[MOST_CHAIRS];
        private final int[] oils = new int[MOST_HEADS];
        private final int[] owns = new int[MOST_HEADS * THOUGHTS];
        private final int[] visitHeads = new int[MOST_VISITS];
        private final int[] visitChairs = new int[MOST_VISITS];
        private final int[] visitHours = new int[MOST_VISITS];
        private final int[] steps = new int[DEFAULT_STEPS + Tokens.ROOM];
        private final int[] starts = new int[LAWS];
        private int stepCount = 0;
        int chairs = 0;
        int heads = 0;
        int visits = 0;
        int monday = 0;
        int says = DEFAULT_SAYS;
        int moth = 0;
        int seed = 0;

        Plan() {
            clear();
        }

        void clear() {
            chairs = 0;
            heads = 0;
            visits = 0;
            monday = 0;
            says = DEFAULT_SAYS;
            moth = 0;
            seed = 0;
            stepCount = 0;
            setDefault(LAW_KEEPS, NUMBER, 1);
            setDefault(LAW_PASSES, NUMBER, 1);
            setDefault(LAW_WASHES, VARIABLE, CLOTH);
            setDefault(LAW_FADES, NUMBER, 0);
        }

        private void setDefault(int law, int kind, int value) {
            setStart(law, stepCount);
            addStep(kind, value);
            addStep(ANSWER, 0);
        }

        void copyFrom(Plan other) {
            System.arraycopy(other.meshes, 0, meshes, 0, MOST_CHAIRS);
            System.arraycopy(other.oils, 0, oils, 0, MOST_HEADS);
            System.arraycopy(other.owns, 0, owns, 0, MOST_HEADS * THOUGHTS);
            System.arraycopy(other.visitHeads, 0, visitHeads, 0, MOST_VISITS);
            System.arraycopy(other.visitChairs, 0, visitChairs, 0, MOST_VISITS);
            System.arraycopy(other.visitHours, 0, visitHours, 0, MOST_VISITS);
            System.arraycopy(other.steps, 0, steps, 0, DEFAULT_STEPS + Tokens.ROOM);
            System.arraycopy(other.starts, 0, starts, 0, LAWS);
            stepCount = other.stepCount;
            chairs = other.chairs;
            heads = other.heads;
            visits = other.visits;
            monday = other.monday;
            says = other.says;
            moth = other.moth;
            seed = other.seed;
        }

        void addChair(int mesh) {
            if (chairs >= 0 && chairs < meshes.length) {
                meshes[chairs] = mesh;
                chairs++;
            }
        }

        /** What the head has of each thought is set ahead of it, by setOwn. */
        void addHead(int oil) {
            if (heads >= 0 && heads < oils.length) {
                oils[heads] = oil;
                heads++;
            }
        }

        void setOwn(int head, int thought, int amount) {
            int i = head * THOUGHTS + thought;
            if (i >= 0 && i < owns.length) {
                owns[i] = amount;
            }
        }

        void addVisit(int head, int chair, int hour) {
            if (visits >= 0 && visits < MOST_VISITS) {
                visitHeads[visits] = head;
                visitChairs[visits] = chair;
                visitHours[visits] = hour;
                visits++;
            }
        }

        void setStart(int law, int step) {
            if (law >= 0 && law < starts.length) {
                starts[law] = step;
            }
        }

        int startOf(int law) {
            return law >= 0 && law < starts.length ? starts[law] : stepCount;
        }

        int stepCount() {
            return stepCount;
        }

        void addStep(int kind, int value) {
            if (stepCount >= 0 && stepCount < steps.length) {
                steps[stepCount] = value << 3 | kind;
                stepCount++;
            }
        }

        /** Where an if goes on is known only behind its then. */
        void aimStep(int step, int target) {
            if (step >= 0 && step < steps.length) {
                steps[step] = target << 3 | UNLESS_LESS;
            }
        }

        boolean hasChair(int chair) {
            return chair >= 0 && chair < chairs;
        }

        boolean hasHead(int head) {
            return head >= 0 && head < heads;
        }

        boolean hasVisit(int visit) {
            return visit >= 0 && visit < visits;
        }

        int meshOf(int chair) {
            return chair >= 0 && chair < meshes.length ? meshes[chair] : 0;
        }

        int oilOf(int head) {
            return head >= 0 && head < oils.length ? oils[head] : 0;
        }

        int oilOfAll() {
            int all = 0;
            for (int head = 0; head < heads; head++) {
                all += oilOf(head);
            }
            return all;
        }

        int ownAtFirst(int head, int thought) {
            int i = head * THOUGHTS + thought;
            return i >= 0 && i < owns.length ? owns[i] : 0;
        }

        int visitHead(int visit) {
            return visit >= 0 && visit < visitHeads.length ? visitHeads[visit] : 0;
        }

        int visitChair(int visit) {
            return visit >= 0 && visit < visitChairs.length ? visitChairs[visit] : 0;
        }

        int visitHour(int visit) {
            return visit >= 0 && visit < visitHours.length ? visitHours[visit] : 0;
        }
    }

    /** Reads the tape into a draft; behind a fault no token is taken, so the token at hand stays that of the fault. */
    private static final class Reader {
        private static final int SYNTAX = 1;
        private static final int ROOM = 2;
        private static final int TWICE = 3;
        private static final int UNKNOWN = 4;
        private static final int WRONG = 5;
        private static final int MOST_IFS = 4;
        private static final int DEEPEST = 6;

        private final Tokens tokens;
        private final Plan draft = new Plan();
        private final long[] chairNames = new long[MOST_CHAIRS];
        private final long[] headNames = new long[MOST_HEADS];
        private int at = 0;
        private int kind = Tokens.END;
        private int fault = 0;
        private int lesserFault = 0;
        private int lesserPlace = NONE;
        private int faultPlace = NONE;

        Reader(Tape tape) {
            tokens = new Tokens(tape);
        }

        Plan draft() {
            return draft;
        }

        int faultPlace() {
            return faultPlace;
        }

        /** Faults 3 to 5 count only in a text without 1 and 2: the first of them waits until the end is seen. */
        int readTape() {
            tokens.scan();
            draft.clear();
            at = 0;
            kind = tokens.kindAt(0);
            fault = 0;
            lesserFault = 0;
            lesserPlace = NONE;
            for (int i = 0; i <= Tokens.ROOM && fault == 0 && kind != Tokens.END; i++) {
                switch (kind) {
                    case Tokens.CHAIR:
                        readChair();
                        break;
                    case Tokens.HEAD:
                        readHead();
                        break;
                    case Tokens.VISIT:
                        readVisit();
                        break;
                    case Tokens.MONDAY:
                        draft.monday = readSetting(0, 30);
                        break;
                    case Tokens.SAYS:
                        draft.says = readSetting(1, 999);
                        break;
                    case Tokens.MOTH:
                        draft.moth = readSetting(0, 100);
                        break;
                    case Tokens.SEED:
                        draft.seed = readSetting(0, 9999);
                        break;
                    default:
                        readLaw();
                }
            }
            faultPlace = fault == 0 ? lesserPlace : tokens.placeAt(at);
            return fault == 0 ? lesserFault : fault;
        }

        private void readChair() {
            refuseMore(draft.chairs, MOST_CHAIRS);
            accept(Tokens.CHAIR);
            long name = takeNewName();
            int mesh = takeInt(0, 9);
            if (accept(Tokens.SEMICOLON) && draft.chairs < chairNames.length) {
                chairNames[draft.chairs] = name;
                draft.addChair(mesh);
            }
        }

        private void readHead() {
            refuseMore(draft.heads, MOST_HEADS);
            accept(Tokens.HEAD);
            long name = takeNewName();
            int oil = takeInt(0, 9);
            for (int thought = 0; thought < THOUGHTS; thought++) {
                draft.setOwn(draft.heads, thought, takeInt(0, 99));
            }
            if (accept(Tokens.SEMICOLON) && draft.heads < headNames.length) {
                headNames[draft.heads] = name;
                draft.addHead(oil);
            }
        }

        private void readVisit() {
            refuseMore(draft.visits, MOST_VISITS);
            accept(Tokens.VISIT);
            int head = takeKnownName(headNames, draft.heads);
            int chair = takeKnownName(chairNames, draft.chairs);
            int hour = takeInt(0, DAY - 1);
            if (accept(Tokens.SEMICOLON)) {
                draft.addVisit(head, chair, hour);
            }
        }

        private int readSetting(int low, int high) {
            accept(kind);
            int value = takeInt(low, high);
            accept(Tokens.SEMICOLON);
            return value;
        }

        private void readLaw() {
            int law = kind - Tokens.KEEPS;
            int start = draft.stepCount();
            if (kind < Tokens.KEEPS || kind > Tokens.FADES) {
                refuse(SYNTAX);
            }
            accept(kind);
            accept(Tokens.EQUALS);
            for (int ifs = 0; ifs <= MOST_IFS && fault == 0 && kind == Tokens.IF; ifs++) {
                refuseMore(ifs, MOST_IFS);
                readIf();
            }
            readSum(0);
            draft.addStep(Plan.ANSWER, 0);
            if (accept(Tokens.SEMICOLON)) {
                draft.setStart(law, start);
            }
        }

        private void readIf() {
            accept(Tokens.IF);
            readSum(0);
            accept(Tokens.LESS);
            readSum(0);
            accept(Tokens.THEN);
            int step = draft.stepCount();
            draft.addStep(Plan.UNLESS_LESS, 0);
            readSum(0);
            draft.addStep(Plan.ANSWER, 0);
            accept(Tokens.ELSE);
            draft.aimStep(step, draft.stepCount());
        }

        private void readSum(int depth) {
            readProduct(depth);
            for (int i = 0; i <= Tokens.ROOM && fault == 0 && (kind == Tokens.PLUS || kind == Tokens.MINUS); i++) {
                int step = kind == Tokens.PLUS ? Plan.ADD : Plan.SUBTRACT;
                accept(kind);
                readProduct(depth);
                draft.addStep(step, 0);
            }
        }

        private void readProduct(int depth) {
            readUnit(depth);
            for (int i = 0; i <= Tokens.ROOM && fault == 0 && (kind == Tokens.TIMES || kind == Tokens.OVER); i++) {
                int step = kind == Tokens.TIMES ? Plan.MULTIPLY : Plan.DIVIDE;
                accept(kind);
                readUnit(depth);
                draft.addStep(step, 0);
            }
        }

        private void readUnit(int depth) {
            if (kind == Tokens.INT) {
                draft.addStep(Plan.NUMBER, tokens.numberAt(at));
                accept(Tokens.INT);
            } else if (kind >= Tokens.MESH && kind <= Tokens.ALL) {
                draft.addStep(Plan.VARIABLE, kind - Tokens.MESH);
                accept(kind);
            } else {
                if (kind == Tokens.OPEN && depth >= DEEPEST) {
                    refuse(ROOM);
                }
                if (accept(Tokens.OPEN)) {
                    readSum(depth + 1);
                    accept(Tokens.CLOSE);
                }
            }
        }

        private long takeNewName() {
            long name = tokens.nameAt(at);
            if (kind == Tokens.NAME && (numberOf(name, chairNames, draft.chairs) != NONE
                    || numberOf(name, headNames, draft.heads) != NONE)) {
                noteLesser(TWICE);
            }
            accept(Tokens.NAME);
            return name;
        }

        private int takeKnownName(long[] names, int size) {
            int number = numberOf(tokens.nameAt(at), names, size);
            if (kind == Tokens.NAME && number == NONE) {
                noteLesser(UNKNOWN);
            }
            accept(Tokens.NAME);
            return number;
        }

        private int takeInt(int low, int high) {
            int number = tokens.numberAt(at);
            if (kind == Tokens.INT && (number < low || number > high)) {
                noteLesser(WRONG);
            }
            accept(Tokens.INT);
            return number;
        }

        private static int numberOf(long name, long[] names, int size) {
            for (int i = 0; i < names.length && i < size; i++) {
                if (names[i] == name) {
                    return i;
                }
            }
            return NONE;
        }

        private void noteLesser(int number) {
            if (fault == 0 && lesserFault == 0) {
                lesserFault = number;
                lesserPlace = tokens.placeAt(at);
            }
        }

        private void refuse(int number) {
            if (fault == 0) {
                fault = number;
            }
        }

        private void refuseMore(int size, int most) {
            if (size >= most) {
                refuse(ROOM);
            }
        }

        /** A token that fits no text is a fault ahead of being one too many. */
        private boolean accept(int wanted) {
            if (fault == 0 && kind != wanted) {
                fault = SYNTAX;
            }
            if (fault == 0 && at >= Tokens.ROOM) {
                fault = ROOM;
            }
            if (fault != 0) {
                return false;
            }
            at++;
            kind = at < tokens.size && at < tokens.kinds.length ? tokens.kinds[at] : Tokens.END;
            return true;
        }
    }

    /** All that goes on: what can be held, and undone, as one. */
    private static final class State {
        private final int[] squares = new int[MOST_CHAIRS * THOUGHTS];
        private final int[] owns = new int[MOST_HEADS * THOUGHTS];
        private final int[] satIn = new int[MOST_CHAIRS];
        private final int[] satBy = new int[MOST_HEADS];
        int hour = 0;
        int suds = 0;
        int starched = 0;
        int kept = 0;

        void begin(Plan plan) {
            for (int i = 0; i < squares.length; i++) {
                squares[i] = 0;
            }
            for (int i = 0; i < satIn.length; i++) {
                satIn[i] = 0;
            }
            for (int i = 0; i < satBy.length; i++) {
                satBy[i] = 0;
            }
            for (int i = 0; i < owns.length; i++) {
                int head = i / THOUGHTS;
                owns[i] = plan.hasHead(head) ? plan.ownAtFirst(head, i % THOUGHTS) : 0;
            }
            hour = 0;
            suds = 0;
            starched = 0;
            kept = (1 << plan.visits) - 1;
        }

        void copyFrom(State other) {
            if (other == null) {
                return;
            }
            System.arraycopy(other.squares, 0, squares, 0, MOST_CHAIRS * THOUGHTS);
            System.arraycopy(other.owns, 0, owns, 0, MOST_HEADS * THOUGHTS);
            System.arraycopy(other.satIn, 0, satIn, 0, MOST_CHAIRS);
            System.arraycopy(other.satBy, 0, satBy, 0, MOST_HEADS);
            hour = other.hour;
            suds = other.suds;
            starched = other.starched;
            kept = other.kept;
        }

        int cloth(int chair, int thought) {
            int i = chair * THOUGHTS + thought;
            return i >= 0 && i < squares.length ? squares[i] : 0;
        }

        int clothAll(int chair) {
            int all = 0;
            for (int i = chair * THOUGHTS; i < chair * THOUGHTS + THOUGHTS; i++) {
                all += i >= 0 && i < squares.length ? squares[i] : 0;
            }
            return all;
        }

        int own(int head, int thought) {
            int i = head * THOUGHTS + thought;
            return i >= 0 && i < owns.length ? owns[i] : 0;
        }

        int ownAll(int head) {
            int all = 0;
            for (int i = head * THOUGHTS; i < head * THOUGHTS + THOUGHTS; i++) {
                all += i >= 0 && i < owns.length ? owns[i] : 0;
            }
            return all;
        }

        int satIn(int chair) {
            return chair >= 0 && chair < satIn.length ? satIn[chair] : 0;
        }

        int satBy(int head) {
            return head >= 0 && head < satBy.length ? satBy[head] : 0;
        }

        int satEver() {
            int all = 0;
            for (int head = 0; head < satBy.length; head++) {
                all += satBy[head];
            }
            return all;
        }

        void countSitting(int head, int chair) {
            if (head >= 0 && head < satBy.length && chair >= 0 && chair < satIn.length) {
                satBy[head]++;
                satIn[chair]++;
            }
        }

        void moveIntoSquare(int head, int chair, int thought, int amount) {
            int from = head * THOUGHTS + thought;
            int into = chair * THOUGHTS + thought;
            if (from >= 0 && from < owns.length && into >= 0 && into < squares.length) {
                owns[from] -= amount;
                squares[into] += amount;
            }
        }

        void moveSquareToSuds(int chair, int thought, int amount) {
            int from = chair * THOUGHTS + thought;
            if (from >= 0 && from < squares.length) {
                squares[from] -= amount;
                suds += amount;
            }
        }

        void moveOwnToSuds(int head, int thought, int amount) {
            int from = head * THOUGHTS + thought;
            if (from >= 0 && from < owns.length) {
                owns[from] -= amount;
                suds += amount;
            }
        }

        int hourOfDay() {
            return hour % DAY;
        }

        boolean isStarched(int chair) {
            return (starched >>> chair & 1) != 0;
        }

        void setStarched(int chair, boolean on) {
            starched = on ? starched | 1 << chair : starched & ~(1 << chair);
        }

        boolean isKept(int visit) {
            return (kept >>> visit & 1) != 0;
        }

        void setKept(int visit, boolean on) {
            kept = on ? kept | 1 << visit : kept & ~(1 << visit);
        }

        void swapSquares(int chair, int other) {
            for (int thought = 0; thought < THOUGHTS; thought++) {
                int a = chair * THOUGHTS + thought;
                int b = other * THOUGHTS + thought;
                if (a >= 0 && a < squares.length && b >= 0 && b < squares.length) {
                    int amount = squares[a];
                    squares[a] = squares[b];
                    squares[b] = amount;
                }
            }
            boolean first = isStarched(chair);
            setStarched(chair, isStarched(other));
            setStarched(other, first);
        }

        int saidBy(int head, int says) {
            int bits = 0;
            for (int thought = 0; thought < THOUGHTS; thought++) {
                bits |= own(head, thought) >= says ? 1 << thought : 0;
            }
            return bits;
        }

        int sayersOf(int thought, int heads, int says) {
            int bits = 0;
            for (int head = 0; head < heads; head++) {
                bits |= own(head, thought) >= says ? 1 << head : 0;
            }
            return bits;
        }

        int sayers(int heads, int says) {
            int bits = 0;
            for (int thought = 0; thought < THOUGHTS; thought++) {
                bits |= sayersOf(thought, heads, says);
            }
            return bits;
        }

        int everything() {
            int all = 0;
            for (int chair = 0; chair < MOST_CHAIRS; chair++) {
                all += clothAll(chair);
            }
            for (int head = 0; head < MOST_HEADS; head++) {
                all += ownAll(head);
            }
            return all;
        }

        int emptySquares(int chairs) {
            int bits = 0;
            for (int chair = 0; chair < chairs; chair++) {
                bits |= clothAll(chair) == 0 ? 1 << chair : 0;
            }
            return bits;
        }

        int thoughtsInSquares() {
            int bits = 0;
            for (int i = 0; i < squares.length; i++) {
                bits |= squares[i] > 0 ? 1 << i % THOUGHTS : 0;
            }
            return bits;
        }

        int headWithMost(int thought, int heads) {
            return firstMost(owns, thought, THOUGHTS, heads);
        }

        int chairWithMost(int thought, int chairs) {
            return firstMost(squares, thought, THOUGHTS, chairs);
        }

        int thoughtWithMost(int head) {
            return firstMost(owns, head * THOUGHTS, 1, THOUGHTS);
        }

        private static int firstMost(int[] row, int from, int stride, int size) {
            int best = NOT;
            int most = 0;
            for (int i = 0; i < size; i++) {
                int place = from + i * stride;
                int amount = place >= 0 && place < row.length ? row[place] : 0;
                if (best == NOT || amount > most) {
                    best = i;
                    most = amount;
                }
            }
            return best;
        }

        int fullestHead(int heads) {
            int best = NOT;
            for (int head = 0; head < heads; head++) {
                if (best == NOT || ownAll(head) > ownAll(best)) {
                    best = head;
                }
            }
            return best;
        }

        int closestChairs(int chairs) {
            return closest(squares, chairs);
        }

        int closestHeads(int heads) {
            return closest(owns, heads);
        }

        int squaresApart(int chair, int other) {
            return apart(squares, chair, other);
        }

        int headsApart(int head, int other) {
            return apart(owns, head, other);
        }

        private static int closest(int[] row, int size) {
            int best = NOT;
            int least = 0;
            for (int a = 0; a < size; a++) {
                for (int b = a + 1; b < size; b++) {
                    int by = apart(row, a, b);
                    if (best == NOT || by < least) {
                        best = 10 * a + b;
                        least = by;
                    }
                }
            }
            return best;
        }

        private static int apart(int[] row, int a, int b) {
            int by = 0;
            for (int thought = 0; thought < THOUGHTS; thought++) {
                int one = a * THOUGHTS + thought;
                int other = b * THOUGHTS + thought;
                if (one >= 0 && one < row.length && other >= 0 && other < row.length) {
                    by += Math.abs(row[one] - row[other]);
                }
            }
            return by;
        }
    }

    /** Works out what a law tells of the variables that were set last. */
    private static final class Laws {
        private static final int MESH = 0;
        private static final int OIL = 1;
        private static final int THOUGHT = 2;
        private static final int CLOTH = 3;
        private static final int OWN = 4;
        private static final int HOUR = 5;
        private static final int SAT = 6;
        private static final int WHICH = 7;
        private static final int ALL = 8;
        private static final int VARIABLES = 9;

        /** Seven levels of brackets leave two numbers each, and an if one more. */
        private static final int STACK = 32;

        private final Plan plan;
        private final int[] stack = new int[STACK];
        private final int[] variables = new int[VARIABLES];

        Laws(Plan plan) {
            this.plan = plan;
        }

        void setSitting(State state, int head, int chair, int thought) {
            variables[MESH] = plan.meshOf(chair);
            variables[OIL] = plan.oilOf(head);
            variables[THOUGHT] = thought;
            variables[CLOTH] = state.cloth(chair, thought);
            variables[OWN] = state.own(head, thought);
            variables[HOUR] = state.hourOfDay();
            variables[SAT] = state.satIn(chair);
            variables[WHICH] = head;
            variables[ALL] = state.clothAll(chair);
        }

        void setWashing(State state, int chair, int thought) {
            variables[MESH] = plan.meshOf(chair);
            variables[OIL] = 0;
            variables[THOUGHT] = thought;
            variables[CLOTH] = state.cloth(chair, thought);
            variables[OWN] = 0;
            variables[HOUR] = state.hourOfDay();
            variables[SAT] = state.satIn(chair);
            variables[WHICH] = chair;
            variables[ALL] = state.clothAll(chair);
        }

        void setFading(State state, int head, int thought) {
            variables[MESH] = 0;
            variables[OIL] = plan.oilOf(head);
            variables[THOUGHT] = thought;
            variables[CLOTH] = 0;
            variables[OWN] = state.own(head, thought);
            variables[HOUR] = state.hourOfDay();
            variables[SAT] = state.satBy(head);
            variables[WHICH] = head;
            variables[ALL] = state.ownAll(head);
        }

        /** Steps only go forward, so the row's end is the last there can be. */
        int told(int law, int most) {
            int[] steps = plan.steps;
            int depth = 0;
            for (int step = plan.startOf(law); step >= 0 && step < steps.length && most > 0; step++) {
                int kind = steps[step] & 7;
                int value = steps[step] >>> 3;
                if (kind == Plan.ANSWER) {
                    return depth == 1 ? Math.max(0, Math.min(stack[0], most)) : 0;
                }
                if (kind == Plan.NUMBER || kind == Plan.VARIABLE) {
                    if (depth < 0 || depth >= stack.length) {
                        return 0;
                    }
                    stack[depth] = kind == Plan.NUMBER || value >= variables.length ? value : variables[value];
                    depth++;
                    continue;
                }
                if (depth < 2 || depth > stack.length) {
                    return 0;
                }
                int left = stack[depth - 2];
                int right = stack[depth - 1];
                depth -= 2;
                if (kind == Plan.UNLESS_LESS) {
                    step = left < right ? step : Math.max(step, value - 1);
                    continue;
                }
                if (kind == Plan.DIVIDE && right == 0) {
                    return 0;
                }
                stack[depth] = combined(kind, left, right);
                depth++;
            }
            return 0;
        }

        private static int combined(int kind, int left, int right) {
            switch (kind) {
                case Plan.ADD:
                    return left + right;
                case Plan.SUBTRACT:
                    return left - right;
                case Plan.MULTIPLY:
                    return left * right;
                default:
                    return right == 0 ? 0 : left / right;
            }
        }
    }

    /** What happens to a state: sittings, washings, moths, hours. */
    private static final class House {
        private static final int HUNDRED = 100;
        private static final int LOT_START = 153;
        private static final int LOTS_AN_HOUR = 8;

        private final Plan plan;
        private final Laws laws;
        private final int[] amounts = new int[THOUGHTS];

        House(Plan plan) {
            this.plan = plan;
            laws = new Laws(plan);
        }

        int keptOf(State state, int head, int chair, int thought) {
            laws.setSitting(state, head, chair, thought);
            return laws.told(Plan.LAW_KEEPS, state.own(head, thought));
        }

        int passedOf(State state, int head, int chair, int thought) {
            laws.setSitting(state, head, chair, thought);
            return laws.told(Plan.LAW_PASSES, state.cloth(chair, thought));
        }

        /** What is held to nothing need not be worked out; likewise below. */
        int washedOf(State state, int chair, int thought) {
            int cloth = state.cloth(chair, thought);
            if (cloth <= 0) {
                return 0;
            }
            laws.setWashing(state, chair, thought);
            return laws.told(Plan.LAW_WASHES, cloth);
        }

        int fadedOf(State state, int head, int thought) {
            int own = state.own(head, thought);
            if (own <= 0) {
                return 0;
            }
            laws.setFading(state, head, thought);
            return laws.told(Plan.LAW_FADES, own);
        }

        int gainOf(State state, int head, int chair, int thought) {
            int cloth = state.cloth(chair, thought);
            int own = state.own(head, thought);
            if (state.isStarched(chair) || cloth <= 0 && own <= 0) {
                return 0;
            }
            laws.setSitting(state, head, chair, thought);
            return laws.told(Plan.LAW_PASSES, cloth) - laws.told(Plan.LAW_KEEPS, own);
        }

        int washedOfAll(State state, int chair) {
            int all = 0;
            for (int thought = 0; thought < THOUGHTS; thought++) {
                all += washedOf(state, chair, thought);
            }
            return all;
        }

        /** All amounts are worked out ahead of the first move: each tells of how it was; likewise below. */
        void seat(State state, int head, int chair) {
            for (int thought = 0; thought < amounts.length; thought++) {
                amounts[thought] = gainOf(state, head, chair, thought);
            }
            for (int thought = 0; thought < amounts.length; thought++) {
                state.moveIntoSquare(head, chair, thought, -amounts[thought]);
            }
            state.countSitting(head, chair);
        }

        int launder(State state, int chair) {
            int all = 0;
            for (int thought = 0; thought < amounts.length; thought++) {
                amounts[thought] = washedOf(state, chair, thought);
            }
            for (int thought = 0; thought < amounts.length; thought++) {
                state.moveSquareToSuds(chair, thought, amounts[thought]);
                all += amounts[thought];
            }
            state.setStarched(chair, false);
            return all;
        }

        void pass(State state, int n, boolean moths, int seed) {
            for (int i = 0; i < n; i++) {
                for (int visit = 0; visit < plan.visits; visit++) {
                    if (plan.visitHour(visit) == state.hourOfDay() && state.isKept(visit)) {
                        seat(state, plan.visitHead(visit), plan.visitChair(visit));
                    }
                }
                if (moths && hasMoth(state, seed)) {
                    feedMoth(state, seed);
                }
                for (int head = 0; head < plan.heads; head++) {
                    fade(state, head);
                }
                if (isWashDay(state)) {
                    for (int chair = 0; chair < plan.chairs; chair++) {
                        launder(state, chair);
                    }
                }
                state.hour++;
            }
        }

        boolean hasMoth(State state, int seed) {
            return plan.moth > 0 && lot(HUNDRED, seed, LOTS_AN_HOUR * state.hour) < plan.moth;
        }

        private void feedMoth(State state, int seed) {
            int chair = lot(plan.chairs, seed, LOTS_AN_HOUR * state.hour + 1);
            for (int thought = 0; thought < THOUGHTS; thought++) {
                state.moveSquareToSuds(chair, thought, state.cloth(chair, thought));
            }
        }

        private void fade(State state, int head) {
            for (int thought = 0; thought < amounts.length; thought++) {
                amounts[thought] = fadedOf(state, head, thought);
            }
            for (int thought = 0; thought < amounts.length; thought++) {
                state.moveOwnToSuds(head, thought, amounts[thought]);
            }
        }

        private boolean isWashDay(State state) {
            int day = state.hour / DAY;
            return plan.monday > 0 && state.hourOfDay() == DAY - 1 && (day + 1) % plan.monday == 0;
        }

        private static int lot(int n, int seed, int which) {
            int h = stirred(stirred(seed, LOT_START), which);
            return n > 0 ? (h >>> 1) % n : 0;
        }

        private static int stirred(int h, int with) {
            int mixed = (h ^ with) * 1103515245 + 12345;
            return mixed ^ mixed >>> 15;
        }
    }

    /** What would be: all of it happens to states beside the one that goes on. */
    private static final class Foresight {
        private final Plan plan;
        private final House house;
        private final State now;
        private final State trial = new State();
        private final State[] deeper = new State[FEWEST_LIMIT];
        private final int[] path = new int[FEWEST_LIMIT];

        Foresight(Plan plan, House house, State now) {
            this.plan = plan;
            this.house = house;
            this.now = now;
            for (int i = 0; i < deeper.length; i++) {
                deeper[i] = new State();
            }
        }

        State after(int n, boolean moths) {
            trial.copyFrom(now);
            house.pass(trial, n, moths, plan.seed);
            return trial;
        }

        State afterGivingUp(int visit, int n) {
            trial.copyFrom(now);
            trial.setKept(visit, false);
            house.pass(trial, n, false, plan.seed);
            return trial;
        }

        int sittingAt(int i) {
            return i >= 0 && i < path.length ? path[i] : NONE;
        }

        int fewestSittings(int head, int thought) {
            if (now.own(head, thought) >= plan.says) {
                return 0;
            }
            for (int size = 1; size <= FEWEST_LIMIT; size++) {
                if (findSittings(now, head, thought, 0, size)) {
                    return size;
                }
            }
            return NOT;
        }

        /** Fewer were not enough, so the last sitting must be the head's own: no other makes it say more. */
        private boolean findSittings(State from, int head, int thought, int depth, int size) {
            if (depth < 0 || depth >= path.length || depth >= size || from == null) {
                return false;
            }
            if (depth == size - 1) {
                return findLast(from, head, thought, depth);
            }
            State next = deeper[depth];
            for (int sitter = 0; sitter < plan.heads && next != null; sitter++) {
                for (int chair = 0; chair < plan.chairs; chair++) {
                    next.copyFrom(from);
                    house.seat(next, sitter, chair);
                    path[depth] = 10 * sitter + chair;
                    if (findSittings(next, head, thought, depth + 1, size)) {
                        return true;
                    }
                }
            }
            return false;
        }

        private boolean findLast(State from, int head, int thought, int depth) {
            int missing = plan.says - from.own(head, thought);
            for (int chair = 0; chair < plan.chairs; chair++) {
                if (house.gainOf(from, head, chair, thought) >= missing && depth >= 0 && depth < path.length) {
                    path[depth] = 10 * head + chair;
                    return true;
                }
            }
            return false;
        }

        int sittingsAlone(int head, int chair, int thought) {
            trial.copyFrom(now);
            for (int times = 0; times <= SITTINGS_ALONE; times++) {
                if (trial.own(head, thought) >= plan.says) {
                    return times;
                }
                house.seat(trial, head, chair);
            }
            return NOT;
        }

        int chairOfMostGain(int head, int thought) {
            int best = NOT;
            int most = 0;
            for (int chair = 0; chair < plan.chairs; chair++) {
                int gained = house.gainOf(now, head, chair, thought);
                if (best == NOT || gained > most) {
                    best = chair;
                    most = gained;
                }
            }
            return best;
        }

        int chairOfMostSuds() {
            int best = NOT;
            int most = 0;
            for (int chair = 0; chair < plan.chairs; chair++) {
                int washed = house.washedOfAll(now, chair);
                if (best == NOT || washed > most) {
                    best = chair;
                    most = washed;
                }
            }
            return best;
        }

        int hoursUntilSaid(int head, int thought) {
            trial.copyFrom(now);
            for (int gone = 0; gone <= HOURS_FAR; gone++) {
                if (trial.own(head, thought) >= plan.says) {
                    return gone;
                }
                house.pass(trial, 1, false, plan.seed);
            }
            return NOT;
        }

        int hoursUntilSilent(int thought) {
            trial.copyFrom(now);
            for (int gone = 0; gone <= HOURS_FAR; gone++) {
                if (trial.sayersOf(thought, plan.heads, plan.says) == 0) {
                    return gone;
                }
                house.pass(trial, 1, false, plan.seed);
            }
            return NOT;
        }

        /** Without moths the seed changes nothing: one year stands for all. */
        int seedsThatSay(int head, int thought, int n, int seeds) {
            int years = plan.moth > 0 ? seeds : 1;
            int said = 0;
            for (int i = 0; i < years; i++) {
                trial.copyFrom(now);
                house.pass(trial, n, true, plan.seed + i);
                said += trial.own(head, thought) >= plan.says ? 1 : 0;
            }
            return plan.moth > 0 ? said : said * seeds;
        }
    }

    /** What was told of a square by whom nobody knows. */
    private static final class Hearsay {
        private final Plan plan;
        private final House house;
        private final State now;
        private final int[] chairs = new int[MOST_TOLD];
        private final int[] thoughts = new int[MOST_TOLD];
        private final int[] amounts = new int[MOST_TOLD];
        private final boolean[] truths = new boolean[MOST_TOLD];
        private int size = 0;

        Hearsay(Plan plan, House house, State now) {
            this.plan = plan;
            this.house = house;
            this.now = now;
        }

        int size() {
            return size;
        }

        void clear() {
            size = 0;
        }

        int note(int chair, int thought, int amount, boolean so) {
            if (size < 0 || size >= MOST_TOLD) {
                return NONE;
            }
            chairs[size] = chair;
            thoughts[size] = thought;
            amounts[size] = amount;
            truths[size] = so;
            size++;
            return size - 1;
        }

        int headsLeft(int known) {
            int left = (1 << plan.heads) - 1;
            for (int i = 0; i < known && i < size && i < MOST_TOLD; i++) {
                int leaving = headsThatLeave(chairs[i], thoughts[i], amounts[i]);
                left &= truths[i] ? leaving : ~leaving;
            }
            return left;
        }

        private int headsThatLeave(int chair, int thought, int amount) {
            int bits = 0;
            for (int head = 0; head < plan.heads; head++) {
                int behind = now.cloth(chair, thought) - house.gainOf(now, head, chair, thought);
                bits |= behind >= amount ? 1 << head : 0;
            }
            return bits;
        }

        int bestQuestion(int known, int amount) {
            int left = headsLeft(known);
            int best = NOT;
            int fewest = 0;
            for (int i = 0; i < plan.chairs * THOUGHTS && left != 0; i++) {
                int leaving = headsThatLeave(i / THOUGHTS, i % THOUGHTS, amount);
                int worst = Math.max(Integer.bitCount(left & leaving), Integer.bitCount(left & ~leaving));
                if (best == NOT || worst < fewest) {
                    best = 10 * (i / THOUGHTS) + i % THOUGHTS;
                    fewest = worst;
                }
            }
            return best;
        }
    }

    /** The states ahead of the last things done, in a ring. */
    private static final class History {
        private static final int ROOM = 40;

        private final State[] past = new State[ROOM];
        private int next = 0;
        private int size = 0;

        History() {
            for (int i = 0; i < past.length; i++) {
                past[i] = new State();
            }
        }

        int size() {
            return size;
        }

        void clear() {
            size = 0;
        }

        void remember(State state) {
            if (next >= 0 && next < past.length && past[next] != null) {
                past[next].copyFrom(state);
            }
            next = (next + 1) % ROOM;
            size = Math.min(size + 1, ROOM);
        }

        boolean takeBack(State state) {
            if (size <= 0) {
                return false;
            }
            next = (next + ROOM - 1) % ROOM;
            size--;
            if (next >= 0 && next < past.length) {
                state.copyFrom(past[next]);
            }
            return true;
        }
    }

    private static final class Slots {
        private static final int ROOM = 3;

        private final State[] states = new State[ROOM];
        private int held = 0;

        Slots() {
            for (int i = 0; i < states.length; i++) {
                states[i] = new State();
            }
        }

        void clear() {
            held = 0;
        }

        int filled() {
            return Integer.bitCount(held);
        }

        boolean put(int slot, State state) {
            if (slot < 0 || slot >= states.length || states[slot] == null) {
                return false;
            }
            states[slot].copyFrom(state);
            held |= 1 << slot;
            return true;
        }

        boolean fetch(int slot, State state) {
            if (slot < 0 || slot >= states.length || (held >>> slot & 1) == 0) {
                return false;
            }
            state.copyFrom(states[slot]);
            return true;
        }
    }
}
