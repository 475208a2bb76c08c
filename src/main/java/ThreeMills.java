import java.util.Arrays;
import java.util.NoSuchElementException;

/**
 * Grinds programs with functions as values into programs without them, in three ways: as records,
 * as lifted functions and as tags. Each way can be told as text and run with its costs counted.
 */
public final class ThreeMills {
    public static final int NONE = -1;

    private static final int TAPE_ROOM = 3000;
    private static final int FEED_BYTES = 20;
    private static final int OUT_ROOM = 20000;
    private static final int HIGHEST_LIMIT = 20000;
    private static final int RECORDS = 0;
    private static final int LIFTED = 1;
    private static final int TAGS = 2;

    private final byte[] tape;
    private int fed;
    private final Ink out;
    private Program current;
    private Program spare;
    private boolean loaded;
    private int refusal;
    private int refusedAt;
    private final Parser parser;
    private final Checker checker;
    private final Needs finder;
    private final Teller teller;
    private final Coder coder;
    private final Machine machine;

    public ThreeMills() {
        tape = new byte[TAPE_ROOM];
        fed = 0;
        out = new Ink(OUT_ROOM);
        current = new Program(TAPE_ROOM);
        spare = new Program(TAPE_ROOM);
        loaded = false;
        refusal = 0;
        refusedAt = NONE;
        parser = new Parser(current);
        checker = new Checker(current);
        finder = new Needs();
        teller = new Teller(current, out);
        coder = new Coder(current);
        machine = new Machine(current, coder);
    }

    public int feed(int a, int b, int c, int d, int e) {
        if (fed + FEED_BYTES > TAPE_ROOM) {
            return NONE;
        }
        feedNumber(a);
        feedNumber(b);
        feedNumber(c);
        feedNumber(d);
        feedNumber(e);
        return fed;
    }

    public int program(int n) throws IllegalArgumentException {
        if (n < 0 || n > fed) {
            throw new IllegalArgumentException("the tape has not so many bytes");
        }
        fed = 0;
        Program fresh = spare;
        fresh.open(tape, n);
        parser.read(fresh);
        if (fresh.refusal() == 0) {
            checker.check(fresh);
        }
        if (fresh.refusal() == 0) {
            finder.find(fresh);
        }
        refusal = fresh.refusal();
        refusedAt = fresh.refusedAt();
        if (refusal == 0) {
            spare = current;
            current = fresh;
            loaded = true;
        }
        return refusal;
    }

    public int fault(int what) throws NoSuchElementException {
        switch (what) {
            case 0:
                return refusal;
            case 1:
                return refusedAt;
            default:
                throw new NoSuchElementException("no such part of a fault");
        }
    }

    public int count(int what) throws NoSuchElementException {
        switch (what) {
            case 0:
                return loaded ? 1 : 0;
            case 1:
                return loaded ? current.bindings().functions() : 0;
            case 2:
                return loaded ? current.bindings().variables() : 0;
            case 3:
                return loaded ? current.types().numbered() : 0;
            case 4:
                return out.length();
            case 5:
                return fed;
            case 6:
                return machine.allCalls();
            default:
                throw new NoSuchElementException("no such count");
        }
    }

    public int function(int k, int what) throws NoSuchElementException {
        if (!isFunction(k)) {
            throw new NoSuchElementException("no such function");
        }
        Bindings bindings = current.bindings();
        switch (what) {
            case 0:
                return bindings.ownName(k) == NONE ? 0 : 1;
            case 1:
                return bindings.parameter(k);
            case 2:
                return bindings.knownBy(k);
            case 3:
                return current.types().numberOf(bindings.arrow(k));
            case 4:
                return bindings.captures(k, false);
            case 5:
                return bindings.captures(k, true);
            default:
                throw new NoSuchElementException("no such part of a function");
        }
    }

    public int needs(int k, int i, boolean extra) throws NoSuchElementException {
        if (!isFunction(k) || i < 0 || i >= current.bindings().captures(k, extra)) {
            throw new NoSuchElementException("no such need");
        }
        return current.bindings().capture(k, i, extra);
    }

    public int text(int mill) {
        out.clear();
        if (!loaded || !isMill(mill)) {
            return NONE;
        }
        teller.tell(current, mill);
        return out.length();
    }

    public int type() {
        out.clear();
        if (!loaded) {
            return NONE;
        }
        current.types().tell(current.typeOf(current.root()), out);
        return out.length();
    }

    public int run(int mill, int limit) {
        if (!loaded || !isMill(mill) || limit < 1 || limit > HIGHEST_LIMIT) {
            return NONE;
        }
        coder.compile(current, mill);
        return machine.start(current, mill, limit);
    }

    public int cost(int what) throws NoSuchElementException {
        switch (what) {
            case 0:
                return machine.ended();
            case 1:
                return machine.calls();
            case 2:
                return machine.values();
            case 3:
                return machine.special();
            default:
                throw new NoSuchElementException("no such cost");
        }
    }

    public int answer() {
        out.clear();
        if (machine.ended() != 0) {
            return NONE;
        }
        out.copy(machine.said());
        return out.length();
    }

    public int told(int k) throws NoSuchElementException {
        if (!out.keeps(k)) {
            throw new NoSuchElementException("no such byte");
        }
        return out.byteAt(k);
    }

    private void feedNumber(int number) {
        for (int shift = 24; shift >= 0; shift -= 8) {
            if (fed < tape.length) {
                tape[fed] = (byte) (number >> shift);
                fed++;
            }
        }
    }

    private boolean isFunction(int k) {
        return loaded && k >= 0 && k < current.bindings().functions();
    }

    private static boolean isMill(int mill) {
        return mill >= RECORDS && mill <= TAGS;
    }

    private static int at(int[] row, int i) {
        return i >= 0 && i < row.length ? row[i] : NONE;
    }

    private static void put(int[] row, int i, int value) {
        if (i >= 0 && i < row.length) {
            row[i] = value;
        }
    }

    /** Bytes that are written one behind another; those beyond the room are counted, not kept. */
    private static final class Ink {
        private static final long HIGHEST_POWER = 1000000000L;

        private final byte[] bytes;
        private int length;

        Ink(int room) {
            bytes = new byte[room > 0 ? room : 0];
            length = 0;
        }

        void clear() {
            length = 0;
        }

        int length() {
            return length;
        }

        boolean keeps(int k) {
            return k >= 0 && k < length && k < bytes.length;
        }

        int byteAt(int k) {
            return keeps(k) ? bytes[k] & 255 : NONE;
        }

        void letter(int letter) {
            if (length < bytes.length) {
                bytes[length] = (byte) letter;
            }
            length++;
        }

        void word(String word) {
            for (int i = 0; i < word.length(); i++) {
                letter(word.charAt(i));
            }
        }

        void number(int number) {
            // A long, since the lowest int has no opposite among the ints.
            long rest = number;
            if (rest < 0) {
                letter('-');
                rest = -rest;
            }
            boolean begun = false;
            for (long power = HIGHEST_POWER; power > 0; power /= 10) {
                int digit = (int) (rest / power % 10);
                begun = begun || digit != 0 || power == 1;
                if (begun) {
                    letter('0' + digit);
                }
            }
        }

        void copy(Ink other) {
            for (int i = 0; i < other.length(); i++) {
                letter(other.byteAt(i));
            }
        }
    }

    /** The types of one program; each is kept once, so that the same types have the same number. */
    private static final class Types {
        static final int INT = 0;
        static final int BOOL = 1;
        static final int PAIR = 2;
        static final int ARROW = 3;
        private static final int ROOM = 1600;
        private static final int STACK = 1000;
        private static final int STEPS = 100000;

        private final int[] kinds;
        private final int[] lefts;
        private final int[] rights;
        private final int[] sizes;
        private final int[] numbers;
        private final int[] members;
        private final int[] stack;
        private int made;
        private int numbered;

        Types() {
            kinds = new int[ROOM];
            lefts = new int[ROOM];
            rights = new int[ROOM];
            sizes = new int[ROOM];
            numbers = new int[ROOM];
            members = new int[ROOM];
            stack = new int[STACK];
            made = 0;
            numbered = 0;
        }

        void clear() {
            made = 0;
            numbered = 0;
            add(INT, NONE, NONE, 1);
            add(BOOL, NONE, NONE, 1);
        }

        /** A pair or an arrow: the one that is there already, if it was built before. */
        int build(int kind, int left, int right) {
            for (int type = made - 1; type > BOOL; type--) {
                if (at(lefts, type) == left && at(rights, type) == right && at(kinds, type) == kind) {
                    return type;
                }
            }
            return add(kind, left, right, 1 + size(left) + size(right));
        }

        int kind(int type) {
            return at(kinds, type);
        }

        int left(int type) {
            return at(lefts, type);
        }

        int right(int type) {
            return at(rights, type);
        }

        int size(int type) {
            return at(sizes, type);
        }

        int numberOf(int type) {
            return at(numbers, type);
        }

        int numbered() {
            return numbered;
        }

        /** Gives the type a number if it has none, and answers how many members it has then. */
        int join(int type) {
            if (at(numbers, type) == NONE) {
                put(numbers, type, numbered);
                numbered++;
            }
            put(members, type, at(members, type) + 1);
            return at(members, type);
        }

        /** By a stack of its own: a type may be nested deeper than calls should be. */
        void tell(int type, Ink ink) {
            int top = 0;
            put(stack, top++, type);
            for (int step = 0; step < STEPS && top > 0; step++) {
                int next = at(stack, --top);
                if (next < 0) {
                    tellSign(-next, ink);
                } else if (kind(next) == INT) {
                    ink.word("int");
                } else if (kind(next) == BOOL) {
                    ink.word("bool");
                } else {
                    ink.letter('(');
                    put(stack, top++, -')');
                    put(stack, top++, right(next));
                    put(stack, top++, kind(next) == PAIR ? -'*' : -'>');
                    put(stack, top++, left(next));
                }
            }
        }

        private static void tellSign(int sign, Ink ink) {
            if (sign == '>') {
                ink.letter('-');
            }
            ink.letter(sign);
        }

        private int add(int kind, int left, int right, int size) {
            if (made >= ROOM) {
                return NONE;
            }
            int type = made;
            put(kinds, type, kind);
            put(lefts, type, left);
            put(rights, type, right);
            put(sizes, type, size);
            put(numbers, type, NONE);
            put(members, type, 0);
            made++;
            return type;
        }
    }

    /** The variables and the functions of one program, and what each function needs. */
    private static final class Bindings {
        static final int VARIABLES = 100;
        static final int FUNCTIONS = 40;

        private final int[] nameStarts;
        private final int[] nameLengths;
        private final int[] owners;
        private final int[] variableTypes;
        private final int[] known;
        private int variables;
        private final int[] places;
        private final int[] ownNames;
        private final int[] parameters;
        private final int[] knownBy;
        private final int[] arrows;
        private final int[] orders;
        private final int[] parents;
        private final int[] bodies;
        private int functions;
        private final int[] free;
        private final int[] freeCounts;
        private final int[] extra;
        private final int[] extraCounts;

        Bindings() {
            nameStarts = new int[VARIABLES];
            nameLengths = new int[VARIABLES];
            owners = new int[VARIABLES];
            variableTypes = new int[VARIABLES];
            known = new int[VARIABLES];
            variables = 0;
            places = new int[FUNCTIONS];
            ownNames = new int[FUNCTIONS];
            parameters = new int[FUNCTIONS];
            knownBy = new int[FUNCTIONS];
            arrows = new int[FUNCTIONS];
            orders = new int[FUNCTIONS];
            parents = new int[FUNCTIONS];
            bodies = new int[FUNCTIONS];
            functions = 0;
            free = new int[FUNCTIONS * VARIABLES];
            freeCounts = new int[FUNCTIONS];
            extra = new int[FUNCTIONS * VARIABLES];
            extraCounts = new int[FUNCTIONS];
        }

        void clear() {
            variables = 0;
            functions = 0;
        }

        /** The owner is the function in which the variable is bound, NONE at the top. */
        int addVariable(int start, int length, int owner) {
            int v = variables;
            put(nameStarts, v, start);
            put(nameLengths, v, length);
            put(owners, v, owner);
            put(variableTypes, v, NONE);
            put(known, v, NONE);
            variables++;
            return v;
        }

        int addFunction(int place, int parent) {
            int k = functions;
            put(places, k, place);
            put(ownNames, k, NONE);
            put(parameters, k, NONE);
            put(knownBy, k, NONE);
            put(arrows, k, NONE);
            put(orders, k, 0);
            put(parents, k, parent);
            put(bodies, k, NONE);
            put(freeCounts, k, 0);
            put(extraCounts, k, 0);
            functions++;
            return k;
        }

        int variables() {
            return variables;
        }

        int functions() {
            return functions;
        }

        int nameStart(int v) {
            return at(nameStarts, v);
        }

        int nameLength(int v) {
            return at(nameLengths, v);
        }

        int typeOf(int v) {
            return at(variableTypes, v);
        }

        void setType(int v, int type) {
            put(variableTypes, v, type);
        }

        /** The function that is known by a variable. */
        int knownAs(int v) {
            return at(known, v);
        }

        void makeKnown(int v, int k) {
            put(known, v, k);
            put(knownBy, k, v);
        }

        int knownBy(int k) {
            return at(knownBy, k);
        }

        int place(int k) {
            return at(places, k);
        }

        int ownName(int k) {
            return at(ownNames, k);
        }

        void setOwnName(int k, int v) {
            put(ownNames, k, v);
        }

        int parameter(int k) {
            return at(parameters, k);
        }

        void setParameter(int k, int v) {
            put(parameters, k, v);
        }

        int arrow(int k) {
            return at(arrows, k);
        }

        void setArrow(int k, int type) {
            put(arrows, k, type);
        }

        /** The function's place, from 1 on, among those of its type. */
        int order(int k) {
            return at(orders, k);
        }

        void setOrder(int k, int order) {
            put(orders, k, order);
        }

        int body(int k) {
            return at(bodies, k);
        }

        void setBody(int k, int node) {
            put(bodies, k, node);
        }

        int captures(int k, boolean lifted) {
            int captures = at(lifted ? extraCounts : freeCounts, k);
            return captures > 0 ? captures : 0;
        }

        int capture(int k, int i, boolean lifted) {
            return i >= 0 && i < captures(k, lifted) ? at(lifted ? extra : free, k * VARIABLES + i) : NONE;
        }

        void addExtra(int k, int v) {
            int count = captures(k, true);
            put(extra, k * VARIABLES + count, v);
            put(extraCounts, k, count + 1);
        }

        /** From 1 on; 0 if the variable is not free in the function, or there is no function. */
        int freeIndex(int k, int v) {
            int count = captures(k, false);
            for (int i = 0; i < count; i++) {
                if (at(free, k * VARIABLES + i) == v) {
                    return i + 1;
                }
            }
            return 0;
        }

        /** A function asks a variable: it is free in all functions from there out to its owner. */
        void ask(int v, int asker) {
            int home = at(owners, v);
            int k = asker;
            for (int i = 0; i < FUNCTIONS && k != NONE && k != home; i++) {
                if (ownName(k) != v && freeIndex(k, v) == 0) {
                    int count = captures(k, false);
                    put(free, k * VARIABLES + count, v);
                    put(freeCounts, k, count + 1);
                }
                k = at(parents, k);
            }
        }
    }

    /** One text with its tree: nodes have a first part, and each part has the next one. */
    private static final class Program {
        static final int NUMBER = 0;
        static final int TRUTH = 1;
        static final int NAME = 2;
        static final int SIGNS = 3;
        static final int USE = 4;
        static final int BRACKETS = 5;
        static final int PAIR = 6;
        static final int FIRST = 7;
        static final int SECOND = 8;
        static final int IF = 9;
        static final int LET = 10;
        static final int REC = 11;
        static final int LAMBDA = 12;
        /** No walk down a tree goes deeper: ten EXPRS within each other have 30 levels of nodes. */
        static final int DEEPEST = 40;
        /** A text of 3000 bytes has fewer nodes: at most some 8 for each 7 bytes. */
        static final int NODES = 4000;

        private final byte[] letters;
        private int length;
        private final int[] kinds;
        private final int[] places;
        private final int[] numbers;
        private final int[] firsts;
        private final int[] nexts;
        private final int[] types;
        private final int[] signs;
        private final int[] signPlaces;
        private int nodes;
        private int root;
        private int refusal;
        private int refusedAt;
        private final Types allTypes;
        private final Bindings allBindings;

        Program(int room) {
            letters = new byte[room > 0 ? room : 0];
            length = 0;
            kinds = new int[NODES];
            places = new int[NODES];
            numbers = new int[NODES];
            firsts = new int[NODES];
            nexts = new int[NODES];
            types = new int[NODES];
            signs = new int[NODES];
            signPlaces = new int[NODES];
            nodes = 0;
            root = NONE;
            refusal = 0;
            refusedAt = NONE;
            allTypes = new Types();
            allBindings = new Bindings();
        }

        void open(byte[] text, int n) {
            length = Math.max(0, Math.min(n, Math.min(text.length, letters.length)));
            System.arraycopy(text, 0, letters, 0, length);
            nodes = 0;
            root = NONE;
            refusal = 0;
            refusedAt = NONE;
            allTypes.clear();
            allBindings.clear();
        }

        Types types() {
            return allTypes;
        }

        Bindings bindings() {
            return allBindings;
        }

        int length() {
            return length;
        }

        int letter(int i) {
            return i >= 0 && i < length && i < letters.length ? letters[i] & 255 : NONE;
        }

        /** The first refusal stays: what is met behind it is no more looked at. */
        void refuse(int reason, int place) {
            if (refusal == 0) {
                refusal = reason;
                refusedAt = place;
            }
        }

        int refusal() {
            return refusal;
        }

        int refusedAt() {
            return refusedAt;
        }

        /** The number is a number's value, a name's or let's variable, a function. */
        int addNode(int kind, int place, int number) {
            if (nodes >= NODES) {
                return NONE;
            }
            int node = nodes;
            put(kinds, node, kind);
            put(places, node, place);
            put(numbers, node, number);
            put(firsts, node, NONE);
            put(nexts, node, NONE);
            put(types, node, NONE);
            put(signs, node, NONE);
            put(signPlaces, node, NONE);
            nodes++;
            return node;
        }

        void setFirst(int node, int part) {
            put(firsts, node, part);
        }

        void setNext(int node, int part) {
            put(nexts, node, part);
        }

        /** The sign that stands ahead of a node. */
        void setSign(int node, int sign, int place) {
            put(signs, node, sign);
            put(signPlaces, node, place);
        }

        void setType(int node, int type) {
            put(types, node, type);
        }

        void setRoot(int node) {
            root = node;
        }

        int root() {
            return root;
        }

        int kind(int node) {
            return at(kinds, node);
        }

        int place(int node) {
            return at(places, node);
        }

        int number(int node) {
            return at(numbers, node);
        }

        int first(int node) {
            return at(firsts, node);
        }

        int next(int node) {
            return at(nexts, node);
        }

        int typeOf(int node) {
            return at(types, node);
        }

        int sign(int node) {
            return at(signs, node);
        }

        int signPlace(int node) {
            return at(signPlaces, node);
        }

        /** How many parts stand behind a node's first one. */
        int partsBehindFirst(int node) {
            int count = 0;
            int part = next(first(node));
            for (int i = 0; i < NODES && part != NONE; i++) {
                count++;
                part = next(part);
            }
            return count;
        }

        /** The function that a use calls by its name, without its value: NONE if there is none. */
        int calledByName(int use) {
            int head = first(use);
            return kind(head) == NAME ? allBindings.knownAs(number(head)) : NONE;
        }
    }

    /** Cuts a program's text into tokens and goes along them. A sign's kind is its own byte. */
    private static final class Scanner {
        static final int END = 0;
        static final int STRANGE = 1;
        static final int STOPPED = 2;
        static final int NAME = 3;
        static final int NUMBER = 4;
        static final int ARROW = 5;
        static final int LET = 10;
        static final int REC = 11;
        static final int IN = 12;
        static final int IF = 13;
        static final int THEN = 14;
        static final int ELSE = 15;
        static final int TRUE = 16;
        static final int FALSE = 17;
        static final int FST = 18;
        static final int SND = 19;
        static final int INT = 20;
        static final int BOOL = 21;

        private Program program;
        private final int[] kinds;
        private final int[] starts;
        private final int[] ends;
        private int found;
        private int current;
        private int kind;
        private int start;
        private int end;

        Scanner(Program any) {
            program = any;
            kinds = new int[TAPE_ROOM + 1];
            starts = new int[TAPE_ROOM + 1];
            ends = new int[TAPE_ROOM + 1];
            found = 0;
            current = 0;
            kind = END;
            start = 0;
            end = 0;
        }

        /** Finds all tokens and stands at the first; behind the last one stands the text's end. */
        void open(Program fresh) {
            program = fresh;
            found = 0;
            end = 0;
            kind = STRANGE;
            for (int i = 0; i <= TAPE_ROOM && kind != END; i++) {
                scan();
                put(kinds, found, kind);
                put(starts, found, start);
                put(ends, found, end);
                found++;
            }
            kind = STRANGE;
            current = NONE;
            advance();
        }

        /** No token comes any more, so that all that still reads unwinds. */
        void stop() {
            kind = STOPPED;
        }

        int kind() {
            return kind;
        }

        int start() {
            return start;
        }

        int length() {
            return end - start;
        }

        /** Of a number of at most nine digits. */
        int value() {
            int value = 0;
            for (int i = start; i < end; i++) {
                value = value * 10 + program.letter(i) - '0';
            }
            return value;
        }

        void advance() {
            if (kind != STOPPED && current < found - 1) {
                current++;
                kind = at(kinds, current);
                start = at(starts, current);
                end = at(ends, current);
            }
        }

        private void scan() {
            int i = end;
            while (i < program.length() && isBlank(program.letter(i))) {
                i++;
            }
            start = i;
            int letter = program.letter(i);
            if (letter == NONE) {
                end = i;
                kind = END;
            } else if (isLetter(letter)) {
                scanName();
            } else if (isDigit(letter)) {
                scanNumber();
            } else {
                scanSign(letter);
            }
        }

        private void scanName() {
            int i = start;
            while (i < program.length() && isLetter(program.letter(i))) {
                i++;
            }
            end = i;
            kind = wordKind();
        }

        private void scanNumber() {
            int i = start;
            while (i < program.length() && isDigit(program.letter(i))) {
                i++;
            }
            end = i;
            kind = NUMBER;
        }

        private void scanSign(int letter) {
            end = start + 1;
            if (letter == '-' && program.letter(end) == '>') {
                end++;
                kind = ARROW;
                return;
            }
            switch (letter) {
                case '\\':
                case ':':
                case '.':
                case '(':
                case ')':
                case ',':
                case '=':
                case '+':
                case '-':
                case '*':
                case '<':
                    kind = letter;
                    break;
                default:
                    kind = STRANGE;
                    break;
            }
        }

        private int wordKind() {
            switch (length()) {
                case 2:
                    return spells("in") ? IN : spells("if") ? IF : NAME;
                case 3:
                    return spells("let") ? LET : spells("rec") ? REC : spells("fst") ? FST
                        : spells("snd") ? SND : spells("int") ? INT : NAME;
                case 4:
                    return spells("then") ? THEN : spells("else") ? ELSE
                        : spells("true") ? TRUE : spells("bool") ? BOOL : NAME;
                case 5:
                    return spells("false") ? FALSE : NAME;
                default:
                    return NAME;
            }
        }

        private boolean spells(String word) {
            for (int i = 0; i < word.length(); i++) {
                if (program.letter(start + i) != word.charAt(i)) {
                    return false;
                }
            }
            return word.length() == length();
        }

        private static boolean isBlank(int letter) {
            return letter == 32 || letter == 10;
        }

        private static boolean isLetter(int letter) {
            return letter >= 'a' && letter <= 'z';
        }

        private static boolean isDigit(int letter) {
            return letter >= '0' && letter <= '9';
        }
    }

    /** Reads a text into a tree; finds for each name its variable, and what functions ask. */
    private static final class Parser {
        private static final int MISPLACED = 1;
        private static final int TOO_MUCH = 2;
        private static final int LONGEST_NAME = 8;
        private static final int LONGEST_NUMBER = 9;
        private static final int MOST_ARGUMENTS = 8;
        private static final int DEEPEST = 10;

        private Program program;
        private Bindings bindings;
        private final Scanner scanner;
        private final int[] visible;
        private int seen;
        private int asker;

        Parser(Program any) {
            program = any;
            bindings = any.bindings();
            scanner = new Scanner(any);
            visible = new int[Bindings.VARIABLES];
            seen = 0;
            asker = NONE;
        }

        void read(Program fresh) {
            program = fresh;
            bindings = fresh.bindings();
            seen = 0;
            asker = NONE;
            scanner.open(fresh);
            program.setRoot(expression(1));
            accept(Scanner.END);
        }

        private int refuse(int reason) {
            if (scanner.kind() != Scanner.STOPPED) {
                program.refuse(reason, scanner.start());
                scanner.stop();
            }
            return NONE;
        }

        private void accept(int kind) {
            if (scanner.kind() == kind) {
                scanner.advance();
            } else {
                refuse(MISPLACED);
            }
        }

        private int expression(int depth) {
            if (!startsExpression()) {
                return refuse(MISPLACED);
            }
            if (depth > DEEPEST) {
                return refuse(TOO_MUCH);
            }
            switch (scanner.kind()) {
                case Scanner.LET:
                    return let(depth);
                case Scanner.REC:
                    return rec(depth);
                case Scanner.IF:
                    return choice(depth);
                case '\\':
                    return lambda(depth);
                default:
                    return signs(depth);
            }
        }

        private boolean startsExpression() {
            switch (scanner.kind()) {
                case Scanner.LET:
                case Scanner.REC:
                case Scanner.IF:
                case '\\':
                    return true;
                default:
                    return startsAtom();
            }
        }

        private boolean startsAtom() {
            switch (scanner.kind()) {
                case Scanner.NUMBER:
                case Scanner.TRUE:
                case Scanner.FALSE:
                case Scanner.NAME:
                case Scanner.FST:
                case Scanner.SND:
                case '(':
                    return true;
                default:
                    return false;
            }
        }

        private int let(int depth) {
            int place = scanner.start();
            scanner.advance();
            int v = bind(asker);
            int node = program.addNode(Program.LET, place, v);
            accept('=');
            int given = expression(depth + 1);
            if (program.kind(given) == Program.LAMBDA) {
                bindings.makeKnown(v, program.number(given));
            }
            accept(Scanner.IN);
            show(v);
            int rest = expression(depth + 1);
            hide();
            return join(node, given, rest);
        }

        private int rec(int depth) {
            if (bindings.functions() >= Bindings.FUNCTIONS) {
                return refuse(TOO_MUCH);
            }
            int outer = asker;
            int k = bindings.addFunction(scanner.start(), outer);
            int node = program.addNode(Program.REC, scanner.start(), k);
            scanner.advance();
            int v = bind(outer);
            bindings.setOwnName(k, v);
            bindings.makeKnown(v, k);
            accept('(');
            int x = bindParameter(k, depth);
            accept(')');
            accept(':');
            int result = typeText(depth + 1);
            bindings.setType(v, program.types().build(Types.ARROW, bindings.typeOf(x), result));
            accept('=');
            show(v);
            int body = body(k, x, depth);
            accept(Scanner.IN);
            int rest = expression(depth + 1);
            hide();
            return join(node, body, rest);
        }

        private int lambda(int depth) {
            if (bindings.functions() >= Bindings.FUNCTIONS) {
                return refuse(TOO_MUCH);
            }
            int k = bindings.addFunction(scanner.start(), asker);
            int node = program.addNode(Program.LAMBDA, scanner.start(), k);
            scanner.advance();
            int x = bindParameter(k, depth);
            accept('.');
            program.setFirst(node, body(k, x, depth));
            return node;
        }

        private int bindParameter(int k, int depth) {
            int x = bind(k);
            bindings.setParameter(k, x);
            accept(':');
            bindings.setType(x, typeText(depth + 1));
            return x;
        }

        private int body(int k, int x, int depth) {
            int outer = asker;
            asker = k;
            show(x);
            int body = expression(depth + 1);
            hide();
            asker = outer;
            bindings.setBody(k, body);
            return body;
        }

        private int choice(int depth) {
            int node = program.addNode(Program.IF, scanner.start(), NONE);
            scanner.advance();
            int condition = expression(depth + 1);
            accept(Scanner.THEN);
            int yes = expression(depth + 1);
            accept(Scanner.ELSE);
            int no = expression(depth + 1);
            program.setNext(yes, no);
            return join(node, condition, yes);
        }

        private int join(int node, int first, int second) {
            program.setFirst(node, first);
            program.setNext(first, second);
            return node;
        }

        private int signs(int depth) {
            int first = use(depth);
            if (!isSign()) {
                return first;
            }
            int node = program.addNode(Program.SIGNS, program.place(first), NONE);
            program.setFirst(node, first);
            int last = first;
            for (int i = 0; i < Program.NODES && isSign(); i++) {
                int sign = scanner.kind();
                int place = scanner.start();
                scanner.advance();
                int operand = use(depth);
                program.setSign(operand, sign, place);
                program.setNext(last, operand);
                last = operand;
            }
            return node;
        }

        private boolean isSign() {
            switch (scanner.kind()) {
                case '+':
                case '-':
                case '*':
                case '<':
                case '=':
                    return true;
                default:
                    return false;
            }
        }

        private int use(int depth) {
            int first = atom(depth);
            if (!startsAtom()) {
                return first;
            }
            int node = program.addNode(Program.USE, program.place(first), NONE);
            program.setFirst(node, first);
            int last = first;
            for (int i = 0; i < MOST_ARGUMENTS && startsAtom(); i++) {
                int argument = atom(depth);
                program.setNext(last, argument);
                last = argument;
            }
            return startsAtom() ? refuse(TOO_MUCH) : node;
        }

        private int atom(int depth) {
            switch (scanner.kind()) {
                case Scanner.NUMBER:
                    return number();
                case Scanner.TRUE:
                    return leaf(Program.TRUTH, 1);
                case Scanner.FALSE:
                    return leaf(Program.TRUTH, 0);
                case Scanner.NAME:
                    return name();
                case '(':
                    return brackets(depth);
                case Scanner.FST:
                    return half(Program.FIRST, depth + 1);
                case Scanner.SND:
                    return half(Program.SECOND, depth + 1);
                default:
                    return refuse(MISPLACED);
            }
        }

        private int leaf(int kind, int number) {
            int node = program.addNode(kind, scanner.start(), number);
            scanner.advance();
            return node;
        }

        private int number() {
            if (scanner.length() > LONGEST_NUMBER) {
                return refuse(TOO_MUCH);
            }
            return leaf(Program.NUMBER, scanner.value());
        }

        private int name() {
            if (scanner.length() > LONGEST_NAME) {
                return refuse(TOO_MUCH);
            }
            int v = innermost();
            if (v != NONE) {
                bindings.ask(v, asker);
            }
            return leaf(Program.NAME, v);
        }

        private int brackets(int depth) {
            int place = scanner.start();
            scanner.advance();
            int first = expression(depth + 1);
            if (scanner.kind() != ',') {
                accept(')');
                int node = program.addNode(Program.BRACKETS, place, NONE);
                program.setFirst(node, first);
                return node;
            }
            scanner.advance();
            int second = expression(depth + 1);
            accept(')');
            return join(program.addNode(Program.PAIR, place, NONE), first, second);
        }

        /** The word counts as an expression about its atom, so the depth is that one's. */
        private int half(int kind, int depth) {
            if (depth > DEEPEST) {
                return refuse(TOO_MUCH);
            }
            int node = leaf(kind, NONE);
            program.setFirst(node, atom(depth));
            return node;
        }

        private int typeText(int depth) {
            if (!startsType()) {
                return refuse(MISPLACED);
            }
            if (depth > DEEPEST) {
                return refuse(TOO_MUCH);
            }
            int side = typePart(depth);
            if (scanner.kind() == '*') {
                scanner.advance();
                side = program.types().build(Types.PAIR, side, typePart(depth));
            }
            if (scanner.kind() != Scanner.ARROW) {
                return side;
            }
            scanner.advance();
            return program.types().build(Types.ARROW, side, typeText(depth + 1));
        }

        private boolean startsType() {
            int kind = scanner.kind();
            return kind == Scanner.INT || kind == Scanner.BOOL || kind == '(';
        }

        private int typePart(int depth) {
            switch (scanner.kind()) {
                case Scanner.INT:
                    scanner.advance();
                    return Types.INT;
                case Scanner.BOOL:
                    scanner.advance();
                    return Types.BOOL;
                case '(':
                    scanner.advance();
                    int inner = typeText(depth + 1);
                    accept(')');
                    return inner;
                default:
                    return refuse(MISPLACED);
            }
        }

        private int bind(int owner) {
            if (scanner.kind() != Scanner.NAME) {
                return refuse(MISPLACED);
            }
            if (scanner.length() > LONGEST_NAME || bindings.variables() >= Bindings.VARIABLES) {
                return refuse(TOO_MUCH);
            }
            int v = bindings.addVariable(scanner.start(), scanner.length(), owner);
            scanner.advance();
            return v;
        }

        private void show(int v) {
            put(visible, seen, v);
            seen++;
        }

        private void hide() {
            seen--;
        }

        private int innermost() {
            for (int i = seen - 1; i >= 0; i--) {
                int v = at(visible, i);
                if (isNamed(v)) {
                    return v;
                }
            }
            return NONE;
        }

        private boolean isNamed(int v) {
            if (bindings.nameLength(v) != scanner.length()) {
                return false;
            }
            for (int i = 0; i < scanner.length(); i++) {
                if (program.letter(bindings.nameStart(v) + i) != program.letter(scanner.start() + i)) {
                    return false;
                }
            }
            return true;
        }
    }

    /** Finds the type of each node, parts first, or the first fault; numbers function types. */
    private static final class Checker {
        private static final int NO_VARIABLE = 3;
        private static final int WRONG_OPERANDS = 4;
        private static final int WRONG_TYPE = 5;
        private static final int NO_FUNCTION = 6;
        private static final int WRONG_ARGUMENT = 7;
        private static final int NO_PAIR = 8;
        private static final int TOO_LARGE = 9;
        private static final int LARGEST = 200;

        private Program program;
        private Types types;
        private Bindings bindings;

        Checker(Program any) {
            program = any;
            types = any.types();
            bindings = any.bindings();
        }

        void check(Program fresh) {
            program = fresh;
            types = fresh.types();
            bindings = fresh.bindings();
            find(fresh.root(), 1);
            if (fresh.refusal() == 0) {
                numberFunctionTypes();
            }
        }

        private void numberFunctionTypes() {
            for (int k = 0; k < bindings.functions(); k++) {
                bindings.setOrder(k, types.join(bindings.arrow(k)));
            }
        }

        private int refuse(int reason, int place) {
            program.refuse(reason, place);
            return NONE;
        }

        /** NONE behind a fault: who asked gives up then, too. */
        private int find(int node, int depth) {
            if (node == NONE || depth > Program.DEEPEST) {
                return NONE;
            }
            int type = findByKind(node, depth);
            program.setType(node, type);
            return type;
        }

        private int findByKind(int node, int depth) {
            switch (program.kind(node)) {
                case Program.NUMBER:
                    return Types.INT;
                case Program.TRUTH:
                    return Types.BOOL;
                case Program.NAME:
                    return ofName(node);
                case Program.SIGNS:
                    return ofSigns(node, depth);
                case Program.USE:
                    return ofUse(node, depth);
                case Program.BRACKETS:
                    return find(program.first(node), depth + 1);
                case Program.PAIR:
                    return ofPair(node, depth);
                case Program.FIRST:
                case Program.SECOND:
                    return ofHalf(node, depth);
                case Program.IF:
                    return ofIf(node, depth);
                case Program.LET:
                    return ofLet(node, depth);
                case Program.REC:
                    return ofRec(node, depth);
                default:
                    return ofLambda(node, depth);
            }
        }

        private int ofName(int node) {
            int v = program.number(node);
            return v == NONE ? refuse(NO_VARIABLE, program.place(node)) : bindings.typeOf(v);
        }

        private int ofSigns(int node, int depth) {
            int part = program.first(node);
            int type = find(part, depth + 1);
            part = program.next(part);
            for (int i = 0; i < Program.NODES && part != NONE && type != NONE; i++) {
                int right = find(part, depth + 1);
                type = right == NONE ? NONE : ofSign(part, type, right);
                part = program.next(part);
            }
            return type;
        }

        private int ofSign(int part, int left, int right) {
            int sign = program.sign(part);
            boolean fits = left == right && (left == Types.INT || left == Types.BOOL && sign == '=');
            if (!fits) {
                return refuse(WRONG_OPERANDS, program.signPlace(part));
            }
            return sign == '<' || sign == '=' ? Types.BOOL : Types.INT;
        }

        private int ofUse(int node, int depth) {
            int part = program.first(node);
            int type = find(part, depth + 1);
            part = program.next(part);
            for (int i = 0; i < Program.NODES && part != NONE && type != NONE; i++) {
                int argument = find(part, depth + 1);
                type = argument == NONE ? NONE : ofApplying(node, part, type, argument);
                part = program.next(part);
            }
            return type;
        }

        private int ofApplying(int node, int part, int applied, int argument) {
            if (types.kind(applied) != Types.ARROW) {
                return refuse(NO_FUNCTION, program.place(node));
            }
            if (types.left(applied) != argument) {
                return refuse(WRONG_ARGUMENT, program.place(part));
            }
            return types.right(applied);
        }

        private int ofPair(int node, int depth) {
            int left = find(program.first(node), depth + 1);
            if (left == NONE) {
                return NONE;
            }
            int right = find(program.next(program.first(node)), depth + 1);
            if (right == NONE) {
                return NONE;
            }
            return ifSmall(types.build(Types.PAIR, left, right), program.place(node));
        }

        private int ifSmall(int type, int place) {
            return types.size(type) > LARGEST ? refuse(TOO_LARGE, place) : type;
        }

        private int ofHalf(int node, int depth) {
            int pair = find(program.first(node), depth + 1);
            if (pair == NONE) {
                return NONE;
            }
            if (types.kind(pair) != Types.PAIR) {
                return refuse(NO_PAIR, program.place(node));
            }
            return program.kind(node) == Program.FIRST ? types.left(pair) : types.right(pair);
        }

        private int ofIf(int node, int depth) {
            int condition = program.first(node);
            int yes = program.next(condition);
            int no = program.next(yes);
            int asked = find(condition, depth + 1);
            int wanted = asked == NONE ? NONE : find(yes, depth + 1);
            int other = wanted == NONE ? NONE : find(no, depth + 1);
            if (other == NONE) {
                return NONE;
            }
            if (asked != Types.BOOL) {
                return refuse(WRONG_TYPE, program.place(condition));
            }
            return wanted == other ? wanted : refuse(WRONG_TYPE, program.place(no));
        }

        private int ofLet(int node, int depth) {
            int given = find(program.first(node), depth + 1);
            if (given == NONE) {
                return NONE;
            }
            bindings.setType(program.number(node), given);
            return find(program.next(program.first(node)), depth + 1);
        }

        private int ofRec(int node, int depth) {
            int k = program.number(node);
            int arrow = bindings.typeOf(bindings.ownName(k));
            bindings.setArrow(k, arrow);
            if (ifSmall(arrow, program.place(node)) == NONE) {
                return NONE;
            }
            int body = program.first(node);
            int comes = find(body, depth + 1);
            int rest = comes == NONE ? NONE : find(program.next(body), depth + 1);
            if (rest == NONE) {
                return NONE;
            }
            return comes == types.right(arrow) ? rest : refuse(WRONG_TYPE, program.place(body));
        }

        private int ofLambda(int node, int depth) {
            int k = program.number(node);
            int comes = find(program.first(node), depth + 1);
            if (comes == NONE) {
                return NONE;
            }
            int arrow = types.build(Types.ARROW, bindings.typeOf(bindings.parameter(k)), comes);
            bindings.setArrow(k, arrow);
            return ifSmall(arrow, program.place(node));
        }
    }

    /** Finds what each function needs once it is lifted, and refuses functions that need too much. */
    private static final class Needs {
        private static final int TOO_MANY = 10;
        private static final int MOST = 12;

        /** 1 for each variable that the function in hand needs. */
        private final int[] marks;

        Needs() {
            marks = new int[Bindings.VARIABLES];
        }

        /** In order: a function that is known to another by a free variable stands ahead of it. */
        void find(Program program) {
            Bindings bindings = program.bindings();
            for (int k = 0; k < bindings.functions(); k++) {
                Arrays.fill(marks, 0);
                mark(bindings, k);
                keep(bindings, k);
            }
            refuseTooMany(program, bindings);
        }

        private void mark(Bindings bindings, int k) {
            for (int i = 0; i < bindings.captures(k, false); i++) {
                int v = bindings.capture(k, i, false);
                int j = bindings.knownAs(v);
                if (j == NONE) {
                    put(marks, v, 1);
                } else {
                    markNeedsOf(bindings, j);
                }
            }
        }

        /** None of them is bound in the function in hand: they are seen where that one is known. */
        private void markNeedsOf(Bindings bindings, int j) {
            for (int i = 0; i < bindings.captures(j, true); i++) {
                put(marks, bindings.capture(j, i, true), 1);
            }
        }

        private void keep(Bindings bindings, int k) {
            for (int v = 0; v < bindings.variables(); v++) {
                if (at(marks, v) == 1) {
                    bindings.addExtra(k, v);
                }
            }
        }

        private static void refuseTooMany(Program program, Bindings bindings) {
            for (int k = 0; k < bindings.functions(); k++) {
                if (bindings.captures(k, false) > MOST || bindings.captures(k, true) > MOST) {
                    program.refuse(TOO_MANY, bindings.place(k));
                }
            }
        }
    }

    /** Tells a program as a mill has ground it. */
    private static final class Teller {
        private final Ink ink;
        private Program program;
        private Types types;
        private Bindings bindings;
        private int mill;
        /** The function whose part is told, NONE in main. */
        private int teller;

        Teller(Program any, Ink out) {
            ink = out;
            program = any;
            types = any.types();
            bindings = any.bindings();
            mill = RECORDS;
            teller = NONE;
        }

        void tell(Program told, int byMill) {
            program = told;
            types = told.types();
            bindings = told.bindings();
            mill = byMill;
            for (int type = 0; mill == TAGS && type < types.numbered(); type++) {
                typeHead(type);
                for (int k = 0; k < bindings.functions(); k++) {
                    if (types.numberOf(bindings.arrow(k)) == type) {
                        caseHead(k);
                        teller = k;
                        expression(bindings.body(k), 1);
                    }
                }
                ink.letter(10);
            }
            for (int k = 0; mill != TAGS && k < bindings.functions(); k++) {
                functionHead(k);
                teller = k;
                expression(bindings.body(k), 1);
                ink.letter(10);
            }
            teller = NONE;
            ink.word("main=");
            expression(program.root(), 1);
            ink.letter(10);
        }

        private void functionHead(int k) {
            ink.letter('f');
            ink.number(k);
            ink.letter('(');
            if (mill == RECORDS) {
                ink.word("e,");
            } else {
                extra(k, true);
            }
            variable(bindings.parameter(k));
            ink.word(")=");
        }

        private void typeHead(int type) {
            ink.letter('a');
            ink.number(type);
            ink.word("(t,x)=");
        }

        /** The tag has what is free in the function by its names, as its own part has it. */
        private void caseHead(int k) {
            ink.word(bindings.order(k) > 1 ? "|<" : "<");
            ink.number(k);
            for (int i = 0; i < bindings.captures(k, false); i++) {
                ink.letter(',');
                variable(bindings.capture(k, i, false));
            }
            ink.letter('>');
            variable(bindings.parameter(k));
            ink.letter(':');
        }

        private void variable(int v) {
            for (int i = 0; i < bindings.nameLength(v); i++) {
                ink.letter(program.letter(bindings.nameStart(v) + i));
            }
            ink.number(v);
        }

        private void extra(int k, boolean commaBehind) {
            for (int i = 0; i < bindings.captures(k, true); i++) {
                ink.word(i > 0 ? "," : "");
                variable(bindings.capture(k, i, true));
            }
            ink.word(commaBehind && bindings.captures(k, true) > 0 ? "," : "");
        }

        private void expression(int node, int depth) {
            if (node == NONE || depth > Program.DEEPEST) {
                return;
            }
            int first = program.first(node);
            int number = program.number(node);
            switch (program.kind(node)) {
                case Program.NUMBER:
                    ink.number(number);
                    break;
                case Program.TRUTH:
                    ink.word(number == 1 ? "true" : "false");
                    break;
                case Program.NAME:
                    if (mill == LIFTED && bindings.knownAs(number) != NONE) {
                        value(bindings.knownAs(number));
                    } else {
                        asThere(number);
                    }
                    break;
                case Program.SIGNS:
                    signs(node, depth);
                    break;
                case Program.USE:
                    use(node, depth);
                    break;
                case Program.BRACKETS:
                    expression(first, depth + 1);
                    break;
                case Program.PAIR:
                    ink.letter('(');
                    expression(first, depth + 1);
                    ink.letter(',');
                    expression(program.next(first), depth + 1);
                    ink.letter(')');
                    break;
                case Program.FIRST:
                case Program.SECOND:
                    ink.word(program.kind(node) == Program.FIRST ? "fst(" : "snd(");
                    expression(first, depth + 1);
                    ink.letter(')');
                    break;
                default:
                    longer(node, depth);
                    break;
            }
        }

        private void longer(int node, int depth) {
            int first = program.first(node);
            switch (program.kind(node)) {
                case Program.IF:
                    ink.word("if ");
                    expression(first, depth + 1);
                    ink.word(" then ");
                    expression(program.next(first), depth + 1);
                    ink.word(" else ");
                    expression(program.next(program.next(first)), depth + 1);
                    break;
                case Program.LET:
                    let(node, depth);
                    break;
                case Program.REC:
                    rec(node, depth);
                    break;
                default:
                    value(program.number(node));
                    break;
            }
        }

        private void let(int node, int depth) {
            int v = program.number(node);
            int given = program.first(node);
            if (mill != LIFTED || bindings.knownAs(v) == NONE) {
                ink.word("let ");
                variable(v);
                ink.letter('=');
                expression(given, depth + 1);
                ink.word(" in ");
            }
            expression(program.next(given), depth + 1);
        }

        private void rec(int node, int depth) {
            int k = program.number(node);
            if (mill != LIFTED) {
                ink.word("let ");
                variable(bindings.ownName(k));
                ink.letter('=');
                value(k);
                ink.word(" in ");
            }
            expression(program.next(program.first(node)), depth + 1);
        }

        /** A variable as it is told within the part that is being told. */
        private void asThere(int v) {
            int index = mill == RECORDS ? bindings.freeIndex(teller, v) : 0;
            if (index > 0) {
                ink.word("e.");
                ink.number(index);
            } else if (mill != LIFTED && bindings.ownName(teller) == v) {
                ink.letter(mill == RECORDS ? 'e' : 't');
            } else {
                variable(v);
            }
        }

        private void value(int k) {
            if (mill == LIFTED) {
                ink.letter('f');
                ink.number(k);
                ink.letter('{');
                extra(k, false);
                ink.letter('}');
                return;
            }
            ink.letter(mill == RECORDS ? '[' : '<');
            ink.number(k);
            for (int i = 0; i < bindings.captures(k, false); i++) {
                ink.letter(',');
                asThere(bindings.capture(k, i, false));
            }
            ink.letter(mill == RECORDS ? ']' : '>');
        }

        private void signs(int node, int depth) {
            int part = program.first(node);
            int signs = program.partsBehindFirst(node);
            for (int i = 0; i < signs; i++) {
                ink.letter('(');
            }
            expression(part, depth + 1);
            for (int i = 0; i < signs; i++) {
                part = program.next(part);
                ink.letter(program.sign(part));
                expression(part, depth + 1);
                ink.letter(')');
            }
        }

        private void use(int node, int depth) {
            int part = program.first(node);
            int arguments = program.partsBehindFirst(node);
            int direct = mill == LIFTED ? program.calledByName(node) : NONE;
            for (int i = arguments; i > (direct == NONE ? 0 : 1); i--) {
                applier(program.typeOf(part), i);
            }
            if (direct == NONE) {
                expression(part, depth + 1);
                ink.letter(',');
            } else {
                ink.letter('f');
                ink.number(direct);
                ink.letter('(');
                extra(direct, true);
            }
            for (int i = 0; i < arguments; i++) {
                part = program.next(part);
                ink.word(i > 0 ? "," : "");
                expression(part, depth + 1);
                ink.letter(')');
            }
        }

        /** What stands ahead of a head that is applied to its i-th argument, the head's type given. */
        private void applier(int head, int i) {
            if (mill != TAGS) {
                ink.word("call(");
                return;
            }
            int type = head;
            for (int step = 1; step < i; step++) {
                type = types.right(type);
            }
            ink.letter('a');
            if (types.numberOf(type) != NONE) {
                ink.number(types.numberOf(type));
            }
            ink.letter('(');
        }
    }

    /** Makes rows of plain orders from a program's tree, as a mill grinds it. */
    private static final class Coder {
        static final int STOP = 0;
        static final int RETURN = 1;
        static final int NUMBER = 2;
        static final int READ = 3;
        static final int COUNT_READS = 4;
        static final int BIND = 5;
        static final int MAKE = 6;
        static final int PAIR = 7;
        static final int FIRST = 8;
        static final int SECOND = 9;
        static final int SIGN = 10;
        static final int JUMP = 11;
        static final int JUMP_IF_FALSE = 12;
        static final int CALL = 13;
        static final int CALL_BY_NAME = 14;
        /** A node makes three orders at most, and a function one more. */
        private static final int ROOM = 3 * Program.NODES + 2 * Bindings.FUNCTIONS;

        private final int[] orders;
        private final int[] operands;
        private final int[] entries;
        private int written;
        private Program program;
        private Bindings bindings;
        private int mill;
        /** The function whose body is coded, NONE in main. */
        private int coded;

        Coder(Program any) {
            orders = new int[ROOM];
            operands = new int[ROOM];
            entries = new int[Bindings.FUNCTIONS];
            written = 0;
            program = any;
            bindings = any.bindings();
            mill = RECORDS;
            coded = NONE;
        }

        void compile(Program given, int byMill) {
            program = given;
            bindings = given.bindings();
            mill = byMill;
            written = 0;
            coded = NONE;
            expression(program.root(), 1);
            write(STOP, 0);
            for (int k = 0; k < bindings.functions(); k++) {
                coded = k;
                put(entries, k, written);
                expression(bindings.body(k), 1);
                write(RETURN, 0);
            }
        }

        int order(int i) {
            return i >= 0 && i < written ? at(orders, i) : STOP;
        }

        int operand(int i) {
            return at(operands, i);
        }

        int entry(int k) {
            return at(entries, k);
        }

        private int write(int order, int operand) {
            int place = written;
            if (place < ROOM) {
                put(orders, place, order);
                put(operands, place, operand);
                written++;
            }
            return place;
        }

        private void expression(int node, int depth) {
            if (node == NONE || depth > Program.DEEPEST) {
                return;
            }
            int first = program.first(node);
            switch (program.kind(node)) {
                case Program.NUMBER:
                case Program.TRUTH:
                    write(NUMBER, program.number(node));
                    break;
                case Program.NAME:
                    name(program.number(node));
                    break;
                case Program.SIGNS:
                    signs(node, depth);
                    break;
                case Program.USE:
                    use(node, depth);
                    break;
                case Program.BRACKETS:
                    expression(first, depth + 1);
                    break;
                case Program.PAIR:
                    expression(first, depth + 1);
                    expression(program.next(first), depth + 1);
                    write(PAIR, 0);
                    break;
                case Program.FIRST:
                case Program.SECOND:
                    expression(first, depth + 1);
                    write(program.kind(node) == Program.FIRST ? FIRST : SECOND, 0);
                    break;
                default:
                    longer(node, depth);
                    break;
            }
        }

        private void longer(int node, int depth) {
            switch (program.kind(node)) {
                case Program.IF:
                    choice(node, depth);
                    break;
                case Program.LET:
                    let(node, depth);
                    break;
                case Program.REC:
                    rec(node, depth);
                    break;
                default:
                    make(program.number(node));
                    break;
            }
        }

        private void name(int v) {
            int k = mill == LIFTED ? bindings.knownAs(v) : NONE;
            if (k != NONE) {
                make(k);
                return;
            }
            write(READ, v);
            if (mill == RECORDS && bindings.freeIndex(coded, v) > 0) {
                write(COUNT_READS, 1);
            }
        }

        /** Reads are counted behind the making: one that ends the run reads nothing. */
        private void make(int k) {
            write(MAKE, k);
            int reads = 0;
            for (int i = 0; mill == RECORDS && i < bindings.captures(k, false); i++) {
                if (bindings.freeIndex(coded, bindings.capture(k, i, false)) > 0) {
                    reads++;
                }
            }
            if (reads > 0) {
                write(COUNT_READS, reads);
            }
        }

        private void signs(int node, int depth) {
            int part = program.first(node);
            int signs = program.partsBehindFirst(node);
            expression(part, depth + 1);
            for (int i = 0; i < signs; i++) {
                part = program.next(part);
                expression(part, depth + 1);
                write(SIGN, program.sign(part));
            }
        }

        private void use(int node, int depth) {
            int part = program.first(node);
            int arguments = program.partsBehindFirst(node);
            int direct = mill == LIFTED ? program.calledByName(node) : NONE;
            if (direct == NONE) {
                expression(part, depth + 1);
            }
            for (int i = 0; i < arguments; i++) {
                part = program.next(part);
                expression(part, depth + 1);
                if (i == 0 && direct != NONE) {
                    write(CALL_BY_NAME, direct);
                } else {
                    write(CALL, 0);
                }
            }
        }

        private void choice(int node, int depth) {
            int condition = program.first(node);
            int yes = program.next(condition);
            expression(condition, depth + 1);
            int toElse = write(JUMP_IF_FALSE, 0);
            expression(yes, depth + 1);
            int toEnd = write(JUMP, 0);
            put(operands, toElse, written);
            expression(program.next(yes), depth + 1);
            put(operands, toEnd, written);
        }

        private void let(int node, int depth) {
            int v = program.number(node);
            int given = program.first(node);
            if (mill != LIFTED || bindings.knownAs(v) == NONE) {
                expression(given, depth + 1);
                write(BIND, v);
            }
            expression(program.next(given), depth + 1);
        }

        private void rec(int node, int depth) {
            int k = program.number(node);
            if (mill != LIFTED) {
                make(k);
                write(BIND, bindings.ownName(k));
            }
            expression(program.next(program.first(node)), depth + 1);
        }
    }

    /** Runs a mill's orders; the sums over all runs are its own, too. */
    private static final class Machine {
        private static final int CALLS_ENDED = 1;
        private static final int OPEN_ENDED = 2;
        private static final int VALUES_ENDED = 3;
        private static final int MOST_OF_ALL_RUNS = 60000;
        private static final int MOST_OPEN = 40;
        private static final int MOST_VALUES = 2000;
        private static final int FRAME = Bindings.VARIABLES;
        /** A value has its function, or its left part, and at most 12 more. */
        private static final int HEAP = MOST_VALUES * 13;
        /** Some 30 values wait in each open call at most. */
        private static final int STACK = 40 * (MOST_OPEN + 1);
        private static final int MOST_STEPS = 1000000000;
        private static final int SAID_ROOM = 4000;
        private static final int SAID_STEPS = 4000;

        private final Coder coder;
        private final Ink said;
        private Program program;
        private Bindings bindings;
        private final int[] stack;
        private int top;
        private final int[] frames;
        private final int[] returns;
        private int open;
        private final int[] heap;
        private int used;
        private int place;
        private int mill;
        private int limit;
        private int ended;
        private int calls;
        private int values;
        private int special;
        private int allCalls;
        private int allValues;

        Machine(Program any, Coder orders) {
            coder = orders;
            said = new Ink(SAID_ROOM);
            program = any;
            bindings = any.bindings();
            stack = new int[STACK];
            frames = new int[(MOST_OPEN + 1) * FRAME];
            returns = new int[MOST_OPEN + 1];
            heap = new int[HEAP];
            ended = NONE;
        }

        int ended() {
            return ended;
        }

        int calls() {
            return calls;
        }

        int values() {
            return values;
        }

        int special() {
            return special;
        }

        int allCalls() {
            return allCalls;
        }

        Ink said() {
            return said;
        }

        int start(Program given, int byMill, int callLimit) {
            program = given;
            bindings = given.bindings();
            mill = byMill;
            limit = callLimit;
            top = 0;
            open = 0;
            used = 0;
            place = 0;
            ended = 0;
            calls = 0;
            values = 0;
            special = 0;
            said.clear();
            boolean going = true;
            for (int step = 0; step < MOST_STEPS && going && ended == 0; step++) {
                going = step();
            }
            if (ended == 0) {
                say(pop());
            }
            return ended;
        }

        private boolean step() {
            int order = coder.order(place);
            int operand = coder.operand(place);
            place++;
            switch (order) {
                case Coder.NUMBER:
                    push(operand);
                    return true;
                case Coder.READ:
                    push(at(frames, open * FRAME + operand));
                    return true;
                case Coder.COUNT_READS:
                    special += operand;
                    return true;
                case Coder.BIND:
                    put(frames, open * FRAME + operand, pop());
                    return true;
                case Coder.JUMP:
                    place = operand;
                    return true;
                case Coder.JUMP_IF_FALSE:
                    place = pop() == 0 ? operand : place;
                    return true;
                case Coder.STOP:
                    return false;
                case Coder.RETURN:
                    place = at(returns, open);
                    open--;
                    return true;
                default:
                    work(order, operand);
                    return true;
            }
        }

        private void work(int order, int operand) {
            switch (order) {
                case Coder.MAKE:
                    make(operand);
                    break;
                case Coder.PAIR:
                    makePair();
                    break;
                case Coder.FIRST:
                    push(at(heap, pop()));
                    break;
                case Coder.SECOND:
                    push(at(heap, pop() + 1));
                    break;
                case Coder.SIGN:
                    reckon(operand);
                    break;
                case Coder.CALL:
                    callValue();
                    break;
                default:
                    callByName(operand);
                    break;
            }
        }

        private void push(int value) {
            put(stack, top, value);
            top++;
        }

        private int pop() {
            top--;
            return at(stack, top);
        }

        private void reckon(int sign) {
            int right = pop();
            int left = pop();
            switch (sign) {
                case '+':
                    push(left + right);
                    break;
                case '-':
                    push(left - right);
                    break;
                case '*':
                    push(left * right);
                    break;
                case '<':
                    push(left < right ? 1 : 0);
                    break;
                default:
                    push(left == right ? 1 : 0);
                    break;
            }
        }

        private boolean mayMake() {
            if (values >= MOST_VALUES || allValues >= MOST_OF_ALL_RUNS) {
                ended = VALUES_ENDED;
                return false;
            }
            values++;
            allValues++;
            return true;
        }

        private void make(int k) {
            if (!mayMake()) {
                return;
            }
            int value = used;
            boolean lifted = mill == LIFTED;
            keep(k);
            for (int i = 0; i < bindings.captures(k, lifted); i++) {
                keep(at(frames, open * FRAME + bindings.capture(k, i, lifted)));
            }
            push(value);
        }

        private void makePair() {
            if (!mayMake()) {
                return;
            }
            int right = pop();
            int left = pop();
            int value = used;
            keep(left);
            keep(right);
            push(value);
        }

        private void keep(int cell) {
            put(heap, used, cell);
            used++;
        }

        private boolean mayCall() {
            if (calls >= limit || allCalls >= MOST_OF_ALL_RUNS) {
                ended = CALLS_ENDED;
                return false;
            }
            if (open >= MOST_OPEN) {
                ended = OPEN_ENDED;
                return false;
            }
            calls++;
            allCalls++;
            return true;
        }

        private void callValue() {
            if (!mayCall()) {
                return;
            }
            int argument = pop();
            int value = pop();
            int k = at(heap, value);
            boolean lifted = mill == LIFTED;
            int frame = (open + 1) * FRAME;
            for (int i = 0; i < bindings.captures(k, lifted); i++) {
                put(frames, frame + bindings.capture(k, i, lifted), at(heap, value + 1 + i));
            }
            if (!lifted && bindings.ownName(k) != NONE) {
                put(frames, frame + bindings.ownName(k), value);
            }
            special += mill == TAGS ? bindings.order(k) : 0;
            enter(k, argument);
        }

        private void callByName(int k) {
            if (!mayCall()) {
                return;
            }
            int argument = pop();
            int frame = open * FRAME;
            for (int i = 0; i < bindings.captures(k, true); i++) {
                int v = bindings.capture(k, i, true);
                put(frames, frame + FRAME + v, at(frames, frame + v));
            }
            special++;
            enter(k, argument);
        }

        private void enter(int k, int argument) {
            open++;
            put(returns, open, place);
            put(frames, open * FRAME + bindings.parameter(k), argument);
            place = coder.entry(k);
        }

        /** By the machine's stack, which is free then: a sign as its opposite, else value and type. */
        private void say(int answered) {
            top = 0;
            push(answered);
            push(program.typeOf(program.root()));
            for (int step = 0; step < SAID_STEPS && top > 0; step++) {
                int type = pop();
                if (type < 0) {
                    said.letter(-type);
                } else {
                    sayPart(type, pop());
                }
            }
        }

        private void sayPart(int type, int value) {
            Types types = program.types();
            switch (types.kind(type)) {
                case Types.INT:
                    said.number(value);
                    break;
                case Types.BOOL:
                    said.word(value == 1 ? "true" : "false");
                    break;
                case Types.PAIR:
                    said.letter('(');
                    push(-')');
                    push(at(heap, value + 1));
                    push(types.right(type));
                    push(-',');
                    push(at(heap, value));
                    push(types.left(type));
                    break;
                default:
                    said.word("fun");
                    break;
            }
        }
    }
}
