import java.util.Arrays;

/**
 * Weaves traces and counters into the code of small class files, and runs the code as it was or as it was woven.
 *
 * Every row is made in a constructor and used again: no call of the face makes an object.
 */
public final class AdviceWeaver {
    public static final int NONE = -1;

    private static final int MOST_BYTES = 240;
    private static final int MOST_METHODS = 4;
    private static final int MOST_LOCALS = 6;
    private static final int MOST_STACK = 8;
    private static final int MOST_LOADED_CODE = 40;
    private static final int MOST_LOADED_HANDLERS = 3;
    private static final int MOST_CODE = 120;
    private static final int MOST_HANDLERS = 5;
    private static final int MOST_TRANSFORMERS = 3;
    private static final int MOST_FUEL = 1000;
    private static final int MOST_SHORT_WAY = 24;

    private static final int START = 0;
    private static final int END = 1;
    private static final int AT = 2;
    private static final int KIND = 3;
    private static final int HANDLER_PARTS = 4;

    private final ClassFile file;
    private final Body[] freshBodies;
    private final Body[] loadedBodies;
    private final Body[] wovenBodies;
    private final Transformer[] chain;
    private final boolean[] failures;
    private final Flow flow;
    private final Loom loom;
    private final Machine machine;
    private int methods;
    private int transformers;
    private boolean isWoven;

    public AdviceWeaver() {
        file = new ClassFile();
        freshBodies = new Body[MOST_METHODS];
        loadedBodies = new Body[MOST_METHODS];
        wovenBodies = new Body[MOST_METHODS];
        for (int m = 0; m < MOST_METHODS; m++) {
            freshBodies[m] = new Body(MOST_LOADED_CODE, MOST_LOADED_HANDLERS);
            loadedBodies[m] = new Body(MOST_LOADED_CODE, MOST_LOADED_HANDLERS);
            wovenBodies[m] = new Body(MOST_CODE, MOST_HANDLERS);
        }
        chain = new Transformer[MOST_TRANSFORMERS];
        for (int t = 0; t < MOST_TRANSFORMERS; t++) {
            chain[t] = new Transformer();
        }
        failures = new boolean[MOST_METHODS * MOST_TRANSFORMERS];
        flow = new Flow();
        loom = new Loom();
        machine = new Machine();
        methods = 0;
        transformers = 0;
        isWoven = false;
    }

    public boolean put(int word, int n) {
        return file.append(word, n);
    }

    public void clear() {
        file.empty();
    }

    public int load() {
        int found = file.readInto(freshBodies);
        if (found < 0) {
            return found;
        }
        for (int m = 0; m < found; m++) {
            if (!freshBodies[m].isWellFormed(found) || !flow.explore(freshBodies[m], freshBodies)) {
                return -1000 - m;
            }
        }
        for (int m = 0; m < found; m++) {
            loadedBodies[m].become(freshBodies[m]);
        }
        methods = found;
        isWoven = false;
        forgetFailures();
        return found;
    }

    public int transformer(boolean cover, int letter, int args) {
        boolean letterHolds = letter == 0 || letter >= ClassFile.FIRST_NAME && letter <= ClassFile.LAST_NAME;
        boolean argsHold = args >= Transformer.ANY_ARGS && args <= ClassFile.MOST_ARGS;
        if (!letterHolds || !argsHold || transformers >= MOST_TRANSFORMERS) {
            return NONE;
        }
        chain[transformers].set(cover, letter, args);
        transformers++;
        return transformers - 1;
    }

    public void unchain() {
        transformers = 0;
    }

    public int weave() {
        if (methods == 0) {
            return NONE;
        }
        forgetFailures();
        int applied = 0;
        for (int m = 0; m < methods; m++) {
            wovenBodies[m].become(loadedBodies[m]);
            applied += sendAlongChain(m);
            flow.explore(wovenBodies[m], loadedBodies);
        }
        isWoven = true;
        return applied;
    }

    public boolean failed(int m, int t) {
        if (m < 0 || m >= MOST_METHODS || t < 0 || t >= MOST_TRANSFORMERS) {
            return false;
        }
        return failures[m * MOST_TRANSFORMERS + t];
    }

    public int run(boolean woven, int m, int a, int b, int fuel) {
        if (bodyOf(woven, m) == null || fuel < 1 || fuel > MOST_FUEL) {
            return NONE;
        }
        return machine.execute(woven ? wovenBodies : loadedBodies, m, a, b, fuel);
    }

    public int value() {
        return machine.value;
    }

    public int used() {
        return machine.used;
    }

    public int marks() {
        return machine.marks;
    }

    public int mark(int k) {
        return machine.markAt(k);
    }

    public int probe(int m, int p) {
        return machine.probesAt(m, p);
    }

    public int shape(boolean woven, int m, int what) {
        Body body = bodyOf(woven, m);
        if (body == null) {
            return NONE;
        }
        switch (what) {
            case 0:
                return body.length;
            case 1:
                return body.handlers;
            case 2:
                return body.instructions;
            case 3:
                return body.greatest;
            default:
                return NONE;
        }
    }

    public int code(boolean woven, int m, int p) {
        Body body = bodyOf(woven, m);
        if (body == null || p < 0 || p >= body.length) {
            return NONE;
        }
        return body.byteAt(p);
    }

    public int handler(boolean woven, int m, int h, int what) {
        Body body = bodyOf(woven, m);
        if (body == null || h < 0 || h >= body.handlers || what < START || what > KIND) {
            return NONE;
        }
        return body.part(h, what);
    }

    public int depth(boolean woven, int m, int p) {
        Body body = bodyOf(woven, m);
        if (body == null || !body.isReached(p)) {
            return NONE;
        }
        return body.depths[p];
    }

    /** The method as it is asked for, or null where the document answers NONE. */
    private Body bodyOf(boolean asWoven, int m) {
        if (m < 0 || m >= methods || asWoven && !isWoven) {
            return null;
        }
        return asWoven ? wovenBodies[m] : loadedBodies[m];
    }

    private void forgetFailures() {
        for (int i = 0; i < failures.length; i++) {
            failures[i] = false;
        }
    }

    private int sendAlongChain(int m) {
        int applied = 0;
        for (int t = 0; t < transformers; t++) {
            if (!chain[t].fits(wovenBodies[m])) {
                continue;
            }
            if (loom.transform(wovenBodies[m], chain[t].cover, t)) {
                applied++;
            } else {
                failures[m * MOST_TRANSFORMERS + t] = true;
            }
        }
        return applied;
    }

    /** The numbers of the instructions, and what holds for an instruction whatever its method is. */
    private static final class Op {
        static final int PUSH = 1;
        static final int LOAD = 2;
        static final int STORE = 3;
        static final int ADD = 4;
        static final int SUBTRACT = 5;
        static final int MULTIPLY = 6;
        static final int DIVIDE = 7;
        static final int DOUBLE = 8;
        static final int DROP = 9;
        static final int GOTO = 10;
        static final int IF_ZERO = 11;
        static final int IF_NEGATIVE = 12;
        static final int CALL = 13;
        static final int RETURN = 14;
        static final int THROW = 15;
        static final int GROW = 16;
        static final int WIDE_GOTO = 20;
        static final int WIDE_IF_ZERO = 21;
        static final int WIDE_IF_NEGATIVE = 22;
        static final int MARK = 30;
        static final int PROBE = 31;
        static final int RETHROW = 32;
        /** What a short branch's number lacks to be that of its wide form. */
        static final int WIDER = WIDE_GOTO - GOTO;

        /** By number; 0 where no instruction has it. */
        private static final int[] SIZES = {
            1, 2, 2, 2, 1, 1, 1, 1, 1, 1, 2, 2, 2, 2, 1, 1, 3, 0, 0, 0, 3, 3, 3, 0, 0, 0, 0, 0, 0, 0, 2, 2, 1};
        /** By number; CALL stands with 0, for what it takes hangs on the method that it calls. */
        private static final int[] TAKES = {
            0, 0, 0, 1, 2, 2, 2, 2, 1, 1, 0, 1, 1, 0, 1, 1, 0, 0, 0, 0, 0, 1, 1, 0, 0, 0, 0, 0, 0, 0, 0, 0, 1};
        private static final int[] PUTS = {
            0, 1, 1, 0, 1, 1, 1, 1, 2, 0, 0, 0, 0, 1, 0, 0, 0, 0, 0, 0, 0, 0, 0, 0, 0, 0, 0, 0, 0, 0, 0, 0, 0};

        static int size(int op) {
            return op >= 0 && op < SIZES.length ? SIZES[op] : 0;
        }

        static int takes(int op) {
            return op >= 0 && op < TAKES.length ? TAKES[op] : 0;
        }

        static int puts(int op) {
            return op >= 0 && op < PUTS.length ? PUTS[op] : 0;
        }

        static boolean isShortBranch(int op) {
            return op >= GOTO && op <= IF_NEGATIVE;
        }

        static boolean isWideBranch(int op) {
            return op >= WIDE_GOTO && op <= WIDE_IF_NEGATIVE;
        }

        static boolean isBranch(int op) {
            return isShortBranch(op) || isWideBranch(op);
        }

        static boolean goesOn(int op) {
            return op != GOTO && op != WIDE_GOTO && op != RETURN && op != THROW && op != RETHROW;
        }

        static boolean isWovenOnly(int op) {
            return op == MARK || op == PROBE || op == RETHROW;
        }

        static boolean isShortWay(int way) {
            return way >= -MOST_SHORT_WAY && way <= MOST_SHORT_WAY;
        }

        static int signedByte(int b) {
            return b < 128 ? b : b - 256;
        }
    }

    /** The bytes that were put, and the reading of them as a class file. */
    private static final class ClassFile {
        static final int FIRST_NAME = 97;
        static final int LAST_NAME = 122;
        static final int MOST_ARGS = 2;
        private static final int MAGIC = 202;
        private static final int MOST_BYTE = 255;
        private static final int MOST_KIND = 9;

        private final int[] bytes = new int[MOST_BYTES];
        private int size;
        private int at;
        private boolean wrong;

        boolean append(int word, int n) {
            if (n < 1 || n > 4 || size + n > MOST_BYTES) {
                return false;
            }
            for (int i = n - 1; i >= 0; i--) {
                bytes[size] = word >>> 8 * i & MOST_BYTE;
                size++;
            }
            return true;
        }

        void empty() {
            size = 0;
        }

        /** Answers how many methods there are, or -1 - the place of the first error. */
        int readInto(Body[] bodies) {
            at = 0;
            wrong = false;
            take(MAGIC, MAGIC);
            int count = take(1, MOST_METHODS);
            for (int m = 0; m < count && !wrong; m++) {
                readMethod(bodies, m);
            }
            if (wrong || at < size) {
                return -1 - at;
            }
            return count;
        }

        /** Behind an error the place stays where it is, so that a reading may go on and the first error is kept. */
        private int take(int low, int high) {
            if (wrong || at >= size || bytes[at] < low || bytes[at] > high) {
                wrong = true;
                return low;
            }
            at++;
            return bytes[at - 1];
        }

        private void readMethod(Body[] bodies, int m) {
            Body body = bodies[m];
            body.name = take(FIRST_NAME, LAST_NAME);
            for (int other = 0; other < m && !wrong; other++) {
                if (bodies[other].name == body.name) {
                    at--;
                    wrong = true;
                }
            }
            body.args = take(0, MOST_ARGS);
            body.locals = take(body.args, MOST_LOCALS);
            body.stack = take(1, MOST_STACK);
            body.length = take(1, MOST_LOADED_CODE);
            for (int p = 0; p < body.length; p++) {
                body.code[p] = take(0, MOST_BYTE);
            }
            readHandlers(body);
        }

        private void readHandlers(Body body) {
            int count = take(0, MOST_LOADED_HANDLERS);
            body.handlers = 0;
            for (int h = 0; h < count; h++) {
                int start = take(0, MOST_BYTE);
                int end = take(0, MOST_BYTE);
                int to = take(0, MOST_BYTE);
                body.addHandler(start, end, to, take(0, MOST_KIND));
            }
        }
    }

    /** A method: what is said of it in its class file, its code, and what was found out about the code. */
    private static final class Body {
        private static final int UNREACHED = -1;
        private static final int INSIDE = -2;

        final int[] code;
        /** By place: the depth before the instruction there, or why there is none. */
        final int[] depths;
        private final int[] parts;
        private final int mostHandlers;
        int name;
        int args;
        int locals;
        int stack;
        int length;
        int handlers;
        int instructions;
        int greatest;

        Body(int mostCode, int mostHandlers) {
            code = new int[mostCode];
            depths = new int[mostCode];
            parts = new int[mostHandlers * HANDLER_PARTS];
            this.mostHandlers = mostHandlers;
        }

        /** The other one has at most as much code and as many handlers as this one has room for. */
        void become(Body other) {
            name = other.name;
            args = other.args;
            locals = other.locals;
            stack = other.stack;
            length = other.length;
            handlers = other.handlers;
            instructions = other.instructions;
            greatest = other.greatest;
            System.arraycopy(other.code, 0, code, 0, length);
            System.arraycopy(other.depths, 0, depths, 0, length);
            System.arraycopy(other.parts, 0, parts, 0, handlers * HANDLER_PARTS);
        }

        int byteAt(int place) {
            return place >= 0 && place < length ? code[place] : 0;
        }

        int part(int h, int what) {
            return parts[h * HANDLER_PARTS + what];
        }

        void addHandler(int start, int end, int to, int kind) {
            if (handlers >= mostHandlers) {
                return;
            }
            int row = handlers * HANDLER_PARTS;
            parts[row + START] = start;
            parts[row + END] = end;
            parts[row + AT] = to;
            parts[row + KIND] = kind;
            handlers++;
        }

        boolean covers(int h, int place) {
            int row = h * HANDLER_PARTS;
            return parts[row + START] <= place && place < parts[row + END];
        }

        /** Where what is thrown at a place goes on, or NONE. */
        int catcherOf(int place, int number) {
            for (int h = 0; h < handlers; h++) {
                int kind = part(h, KIND);
                if (covers(h, place) && (kind == 0 || kind == number)) {
                    return part(h, AT);
                }
            }
            return NONE;
        }

        /** How far the branch at a place leads. */
        int wayAt(int place) {
            int high = Op.signedByte(byteAt(place + 1));
            return Op.isWideBranch(byteAt(place)) ? high * 256 + byteAt(place + 2) : high;
        }

        boolean begins(int place) {
            return place >= 0 && place < length && depths[place] != INSIDE;
        }

        boolean isReached(int place) {
            return place >= 0 && place < length && depths[place] >= 0;
        }

        /** Forgets the depths. Answers whether the code is instructions one after the other, with none cut off. */
        boolean findInstructions() {
            instructions = 0;
            int next = 0;
            for (int place = 0; place < length; place++) {
                if (place == next) {
                    depths[place] = UNREACHED;
                    instructions++;
                    next = place + Op.size(code[place]);
                } else {
                    depths[place] = INSIDE;
                }
            }
            return next == length;
        }

        boolean isWellFormed(int methods) {
            if (!findInstructions()) {
                return false;
            }
            for (int place = 0; place < length; place++) {
                if (begins(place) && !numbersHold(place, methods)) {
                    return false;
                }
            }
            for (int h = 0; h < handlers; h++) {
                int end = part(h, END);
                boolean endHolds = end > part(h, START) && (end == length || begins(end));
                if (!begins(part(h, START)) || !begins(part(h, AT)) || !endHolds) {
                    return false;
                }
            }
            return true;
        }

        private boolean numbersHold(int place, int methods) {
            int op = byteAt(place);
            if (Op.isBranch(op)) {
                int way = wayAt(place);
                return begins(place + way) && (Op.isWideBranch(op) || Op.isShortWay(way));
            }
            if (op == Op.LOAD || op == Op.STORE || op == Op.GROW) {
                return byteAt(place + 1) < locals;
            }
            if (op == Op.CALL) {
                return byteAt(place + 1) < methods;
            }
            return !Op.isWovenOnly(op);
        }
    }

    /**
     * Goes through the states of a method. What an instruction does to the set of locals never hangs on the set, so the
     * locals that are set in all states of an instruction stand for all its sets.
     */
    private static final class Flow {
        /** A round that changes anything reaches an instruction, or takes a local out of one's set. */
        private static final int MOST_ROUNDS = MOST_CODE * (MOST_LOCALS + 1) + 1;

        private final int[] sets = new int[MOST_CODE];
        private boolean changed;
        private boolean sound;

        /** Finds the depths of a WELL FORMED method and answers whether it is SOUND. Of callees only the ARGS count. */
        boolean explore(Body body, Body[] callees) {
            body.findInstructions();
            changed = false;
            sound = true;
            arrive(body, 0, 0, (1 << body.args) - 1);
            for (int round = 0; round < MOST_ROUNDS && changed && sound; round++) {
                changed = false;
                for (int place = 0; place < body.length && sound; place++) {
                    if (body.isReached(place)) {
                        leave(body, place, callees);
                    }
                }
            }
            body.greatest = 0;
            for (int place = 0; place < body.length; place++) {
                body.greatest = Math.max(body.greatest, body.depths[place]);
            }
            return sound;
        }

        private void leave(Body body, int place, Body[] callees) {
            int op = body.byteAt(place);
            int number = body.byteAt(place + 1);
            int set = sets[place];
            int takes = op == Op.CALL ? callees[number].args : Op.takes(op);
            int depth = body.depths[place];
            int after = depth - takes + Op.puts(op);
            boolean usesUnset = (op == Op.LOAD || op == Op.GROW) && (set >> number & 1) == 0;
            if (depth < takes || after > body.stack || usesUnset) {
                sound = false;
                return;
            }
            int setAfter = op == Op.STORE ? set | 1 << number : set;
            if (Op.goesOn(op)) {
                arrive(body, place + Op.size(op), after, setAfter);
            }
            if (Op.isBranch(op)) {
                arrive(body, place + body.wayAt(place), after, setAfter);
            }
            for (int h = 0; h < body.handlers; h++) {
                if (body.covers(h, place)) {
                    arrive(body, body.part(h, AT), 1, set);
                }
            }
        }

        private void arrive(Body body, int place, int depth, int set) {
            if (!body.begins(place)) {
                sound = false;
            } else if (!body.isReached(place)) {
                body.depths[place] = depth;
                sets[place] = set;
                changed = true;
            } else if (body.depths[place] != depth) {
                sound = false;
            } else if ((sets[place] & set) != sets[place]) {
                sets[place] &= set;
                changed = true;
            }
        }
    }

    private static final class Transformer {
        static final int ANY_ARGS = -1;

        boolean cover;
        private int letter;
        private int args;

        void set(boolean cover, int letter, int args) {
            this.cover = cover;
            this.letter = letter;
            this.args = args;
        }

        boolean fits(Body body) {
            return (letter == 0 || letter == body.name) && (args == ANY_ARGS || args == body.args);
        }
    }

    /** Puts instructions into a method's code and lays the code out anew. */
    private static final class Loom {
        /** Before each old instruction one is put at most; a TRACE puts three that are before none. */
        private static final int MOST_ITEMS = 2 * MOST_CODE + 3;

        private final Body old = new Body(MOST_CODE, MOST_HANDLERS);
        private final int[] ops = new int[MOST_ITEMS];
        /** The number of an item that is put in; the old place to which a branch leads. */
        private final int[] numbers = new int[MOST_ITEMS];
        /** The place of an item in the old code; NONE for those that are put in. */
        private final int[] sources = new int[MOST_ITEMS];
        /** One more than the items: the last one is the place behind them. */
        private final int[] places = new int[MOST_ITEMS + 1];
        /** By old place: the item to which now leads what led there. */
        private final int[] leads = new int[MOST_CODE + 1];
        private final int[] leaders = new int[MOST_CODE + 1];
        private int items;

        /** Answers whether it did not FAIL; where it does, the method stays as it was. */
        boolean transform(Body body, boolean cover, int t) {
            old.become(body);
            items = 0;
            if (cover) {
                planCover();
            } else {
                planTrace(t);
            }
            layOut();
            int handlers = cover ? old.handlers : old.handlers + 1;
            if (places[items] > MOST_CODE || handlers > MOST_HANDLERS) {
                return false;
            }
            writeCode(body);
            writeHandlers(body);
            if (!cover) {
                int h = newPlace(old.length);
                body.addHandler(0, h, h, 0);
            }
            body.findInstructions();
            return true;
        }

        private void planTrace(int t) {
            addItem(Op.MARK, 3 * t, NONE);
            for (int place = 0; place < old.length; place++) {
                if (!old.begins(place)) {
                    continue;
                }
                leads[place] = items;
                if (old.byteAt(place) == Op.RETURN) {
                    addItem(Op.MARK, 3 * t + 1, NONE);
                }
                addOldItem(place);
            }
            leads[old.length] = items;
            addItem(Op.MARK, 3 * t + 2, NONE);
            addItem(Op.RETHROW, 0, NONE);
        }

        private void planCover() {
            findLeaders();
            int probes = 0;
            for (int place = 0; place < old.length; place++) {
                if (!old.begins(place)) {
                    continue;
                }
                leads[place] = items;
                if (leaders[place] != 0) {
                    addItem(Op.PROBE, probes, NONE);
                    probes++;
                }
                addOldItem(place);
            }
            leads[old.length] = items;
        }

        private void findLeaders() {
            Arrays.fill(leaders, 0);
            leaders[0] = 1;
            for (int place = 0; place < old.length; place++) {
                if (!old.begins(place)) {
                    continue;
                }
                int op = old.byteAt(place);
                boolean branches = Op.isBranch(op);
                if (branches) {
                    addLeader(place + old.wayAt(place));
                }
                if (branches || !Op.goesOn(op)) {
                    addLeader(place + Op.size(op));
                }
            }
            for (int h = 0; h < old.handlers; h++) {
                addLeader(old.part(h, AT));
            }
        }

        private void addLeader(int place) {
            if (place >= 0 && place < leaders.length) {
                leaders[place] = 1;
            }
        }

        private void addOldItem(int place) {
            int op = old.byteAt(place);
            addItem(op, Op.isBranch(op) ? place + old.wayAt(place) : 0, place);
        }

        private void addItem(int op, int number, int source) {
            if (items >= MOST_ITEMS) {
                return;
            }
            ops[items] = op;
            numbers[items] = number;
            sources[items] = source;
            items++;
        }

        /** A round that widens none ends it, and there are no more rounds than branches to widen. */
        private void layOut() {
            countPlaces();
            for (int round = 0; round < MOST_ITEMS && widenWhereNeeded(); round++) {
                countPlaces();
            }
        }

        private void countPlaces() {
            places[0] = 0;
            for (int i = 0; i < items; i++) {
                places[i + 1] = places[i] + Op.size(ops[i]);
            }
        }

        private boolean widenWhereNeeded() {
            boolean widened = false;
            for (int i = 0; i < items; i++) {
                if (Op.isShortBranch(ops[i]) && !Op.isShortWay(newWay(i))) {
                    ops[i] += Op.WIDER;
                    widened = true;
                }
            }
            return widened;
        }

        private int newWay(int item) {
            return newPlace(numbers[item]) - places[item];
        }

        private int newPlace(int oldPlace) {
            return oldPlace >= 0 && oldPlace < leads.length ? places[leads[oldPlace]] : 0;
        }

        private void writeCode(Body body) {
            body.length = places[items];
            for (int i = 0; i < items; i++) {
                body.code[places[i]] = ops[i];
                if (Op.isBranch(ops[i])) {
                    writeWay(body, i);
                } else if (sources[i] == NONE) {
                    writeNumber(body, i);
                } else {
                    copyNumbers(body, i);
                }
            }
        }

        private void writeWay(Body body, int item) {
            int place = places[item];
            int way = newWay(item);
            if (Op.isWideBranch(ops[item])) {
                body.code[place + 1] = way >> 8 & 255;
                body.code[place + 2] = way & 255;
            } else {
                body.code[place + 1] = way & 255;
            }
        }

        private void copyNumbers(Body body, int item) {
            for (int i = 1; i < Op.size(ops[item]); i++) {
                body.code[places[item] + i] = old.byteAt(sources[item] + i);
            }
        }

        private void writeNumber(Body body, int item) {
            if (Op.size(ops[item]) == 2) {
                body.code[places[item] + 1] = numbers[item];
            }
        }

        private void writeHandlers(Body body) {
            body.handlers = 0;
            for (int h = 0; h < old.handlers; h++) {
                int start = newPlace(old.part(h, START));
                int end = newPlace(old.part(h, END));
                body.addHandler(start, end, newPlace(old.part(h, AT)), old.part(h, KIND));
            }
        }
    }

    /** A method that is under way. */
    private static final class Frame {
        private final int[] stack = new int[MOST_STACK];
        private final int[] locals = new int[MOST_LOCALS];
        private int height;
        int method;
        int place;

        void begin(int method, int args, int a, int b) {
            this.method = method;
            place = 0;
            height = 0;
            Arrays.fill(locals, 0);
            if (args > 0) {
                locals[0] = a;
            }
            if (args > 1) {
                locals[1] = b;
            }
        }

        void goOnWith(int number, int at) {
            height = 0;
            push(number);
            place = at;
        }

        void push(int number) {
            if (height < MOST_STACK) {
                stack[height] = number;
                height++;
            }
        }

        int pop() {
            if (height <= 0) {
                return 0;
            }
            height--;
            return stack[height];
        }

        void doubleTop() {
            int top = pop();
            push(top);
            push(top);
        }

        int getLocal(int n) {
            return n >= 0 && n < MOST_LOCALS ? locals[n] : 0;
        }

        void setLocal(int n, int number) {
            if (n >= 0 && n < MOST_LOCALS) {
                locals[n] = number;
            }
        }
    }

    /** Runs SOUND methods and keeps what the latest run left. */
    private static final class Machine {
        private static final int RUNNING = -1;
        private static final int RETURNED = 0;
        private static final int THREW = 1;
        private static final int OUT = 2;
        private static final int DEEP = 3;
        private static final int MOST_FRAMES = 8;
        private static final int MOST_KEPT_MARKS = 100;
        /** A PROBE and the instruction behind it have three bytes at least. */
        private static final int MOST_PROBES = MOST_CODE / 3;
        private static final int THROWN_BY_DIVIDE = 1;
        /** Far above what a run can need: but for a few of woven code, each step takes fuel. */
        private static final int MOST_STEPS = 1000000;

        private final Frame[] frames = new Frame[MOST_FRAMES];
        private final int[] keptMarks = new int[MOST_KEPT_MARKS];
        private final int[] probes = new int[MOST_METHODS * MOST_PROBES];
        private int open;
        private int fuel;
        private int outcome;
        int value;
        int used;
        int marks;

        Machine() {
            for (int i = 0; i < MOST_FRAMES; i++) {
                frames[i] = new Frame();
            }
        }

        int execute(Body[] bodies, int m, int a, int b, int fuel) {
            this.fuel = fuel;
            used = 0;
            marks = 0;
            Arrays.fill(probes, 0);
            outcome = RUNNING;
            frames[0].begin(m, bodies[m].args, a, b);
            open = 1;
            for (int step = 0; step < MOST_STEPS && outcome == RUNNING; step++) {
                advance(bodies);
            }
            return outcome;
        }

        int markAt(int k) {
            return k >= 0 && k < marks && k < MOST_KEPT_MARKS ? keptMarks[k] : NONE;
        }

        int probesAt(int m, int p) {
            if (m < 0 || m >= MOST_METHODS || p < 0 || p >= MOST_PROBES) {
                return 0;
            }
            return probes[m * MOST_PROBES + p];
        }

        private void end(int how, int number) {
            outcome = how;
            value = number;
        }

        private void advance(Body[] bodies) {
            Frame frame = frames[open - 1];
            Body body = bodies[frame.method];
            int op = body.byteAt(frame.place);
            if (!Op.isWovenOnly(op)) {
                if (used >= fuel) {
                    end(OUT, 0);
                    return;
                }
                used++;
            }
            switch (op) {
                case Op.CALL:
                    enter(frame, body.byteAt(frame.place + 1), bodies);
                    break;
                case Op.RETURN:
                    giveBack(frame.pop());
                    break;
                case Op.THROW:
                case Op.RETHROW:
                    raise(frame.pop(), bodies);
                    break;
                case Op.DIVIDE:
                    divide(frame, bodies);
                    break;
                default:
                    frame.place += wayOn(frame, body, op);
            }
        }

        private void enter(Frame caller, int m, Body[] bodies) {
            if (open >= MOST_FRAMES) {
                end(DEEP, 0);
                return;
            }
            int args = bodies[m].args;
            int b = args > 1 ? caller.pop() : 0;
            int a = args > 0 ? caller.pop() : 0;
            frames[open].begin(m, args, a, b);
            open++;
        }

        /** The caller still stands at its CALL, so that what is thrown in the method called is thrown there. */
        private void giveBack(int number) {
            open--;
            if (open == 0) {
                end(RETURNED, number);
                return;
            }
            Frame caller = frames[open - 1];
            caller.push(number);
            caller.place += Op.size(Op.CALL);
        }

        private void raise(int number, Body[] bodies) {
            for (; open > 0; open--) {
                Frame frame = frames[open - 1];
                int at = bodies[frame.method].catcherOf(frame.place, number);
                if (at != NONE) {
                    frame.goOnWith(number, at);
                    return;
                }
            }
            end(THREW, number);
        }

        private void divide(Frame frame, Body[] bodies) {
            int b = frame.pop();
            int a = frame.pop();
            if (b == 0) {
                raise(THROWN_BY_DIVIDE, bodies);
                return;
            }
            frame.push(a / b);
            frame.place += Op.size(Op.DIVIDE);
        }

        /** Does an instruction that neither throws nor leaves its method. Answers the way to the next one. */
        private int wayOn(Frame frame, Body body, int op) {
            boolean branches = false;
            switch (op) {
                case Op.GOTO:
                case Op.WIDE_GOTO:
                    branches = true;
                    break;
                case Op.IF_ZERO:
                case Op.WIDE_IF_ZERO:
                    branches = frame.pop() == 0;
                    break;
                case Op.IF_NEGATIVE:
                case Op.WIDE_IF_NEGATIVE:
                    branches = frame.pop() < 0;
                    break;
                case Op.ADD:
                case Op.SUBTRACT:
                case Op.MULTIPLY:
                    calculate(frame, op);
                    break;
                case Op.MARK:
                    noteMark(frame.method, body.byteAt(frame.place + 1));
                    break;
                case Op.PROBE:
                    noteProbe(frame.method, body.byteAt(frame.place + 1));
                    break;
                default:
                    move(frame, body, op);
            }
            return branches ? body.wayAt(frame.place) : Op.size(op);
        }

        private void calculate(Frame frame, int op) {
            int b = frame.pop();
            int a = frame.pop();
            if (op == Op.ADD) {
                frame.push(a + b);
            } else if (op == Op.SUBTRACT) {
                frame.push(a - b);
            } else {
                frame.push(a * b);
            }
        }

        private void move(Frame frame, Body body, int op) {
            int n = body.byteAt(frame.place + 1);
            switch (op) {
                case Op.PUSH:
                    frame.push(Op.signedByte(n));
                    break;
                case Op.LOAD:
                    frame.push(frame.getLocal(n));
                    break;
                case Op.STORE:
                    frame.setLocal(n, frame.pop());
                    break;
                case Op.GROW:
                    frame.setLocal(n, frame.getLocal(n) + Op.signedByte(body.byteAt(frame.place + 2)));
                    break;
                case Op.DOUBLE:
                    frame.doubleTop();
                    break;
                case Op.DROP:
                    frame.pop();
                    break;
                default:
                    break;
            }
        }

        private void noteMark(int m, int number) {
            if (marks < MOST_KEPT_MARKS) {
                keptMarks[marks] = 16 * m + number;
            }
            marks++;
        }

        private void noteProbe(int m, int number) {
            if (number < MOST_PROBES) {
                probes[m * MOST_PROBES + number]++;
            }
        }
    }
}
