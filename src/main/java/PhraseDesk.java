/** A small language of expressions over objects; the promises of its document say what each call does. */
public final class PhraseDesk {
    public static final int NONE = -1;

    private static final int NULL = 0;
    private static final int BOOL = 1;
    private static final int INT = 2;
    private static final int REAL = 3;
    private static final int TEXT = 4;
    private static final int ANY = 5;
    private static final int OBJECT = 8;

    private static final int MOST_LETTERS = 40;
    private static final int MOST_PROGRAMS = 40;
    private static final int MOST_CLASSES = 5;
    private static final int MOST_FIELDS = 6;
    private static final int MOST_METHODS = 6;
    private static final int MOST_OBJECTS = 30;
    private static final int MOST_VARIABLES = 12;
    private static final int LONGEST_TEXT = 16;
    private static final int LAST_NAME = 14348906;

    private static final int NO_TOKEN = 1;
    private static final int NO_FIT = 2;
    private static final int TOO_DEEP = 3;

    private static final int WRONG_KIND = 1;
    private static final int BY_ZERO = 2;
    private static final int TOO_BIG = 3;
    private static final int OF_NULL = 4;
    private static final int NO_MEMBER = 5;
    private static final int NO_CONVERTER = 6;
    private static final int SEVERAL_METHODS = 7;
    private static final int NO_METHOD = 8;
    private static final int TOO_LONG = 9;
    private static final int NOT_CONVERTED = 10;
    private static final int TOO_MANY_VARIABLES = 11;

    // A sign of one character is that character; one of two is the first times 256 plus the second.
    private static final int AT_MOST = '<' * 256 + '=';
    private static final int AT_LEAST = '>' * 256 + '=';
    private static final int SAME = '=' * 256 + '=';
    private static final int OTHER = '!' * 256 + '=';
    private static final int AND = '&' * 256 + '&';
    private static final int OR = '|' * 256 + '|';
    private static final int OR_ELSE = '?' * 256 + ':';
    private static final int IF_THERE = '?' * 256 + '.';

    private final Parser parser;
    private final Runner runner;
    private final Node[] programs;
    private int programCount;
    private final Family[] families;
    private int familyCount;
    private final Value[] objects;
    private int objectCount;
    private Value latest;

    public PhraseDesk() {
        parser = new Parser();
        runner = new Runner();
        programs = new Node[MOST_PROGRAMS];
        families = new Family[MOST_CLASSES];
        objects = new Value[MOST_OBJECTS];
        latest = Value.ofNull();
    }

    public int letter(int c) throws IllegalArgumentException, IllegalStateException {
        if (c < 32 || c > 126) {
            throw new IllegalArgumentException("no character 32 .. 126");
        }
        if (parser.lexer.length >= MOST_LETTERS) {
            throw new IllegalStateException("the text has 40 characters");
        }
        parser.lexer.append((char) c);
        return parser.lexer.length;
    }

    public int parse() throws IllegalStateException {
        if (programCount >= programs.length) {
            throw new IllegalStateException("there are 40 programs");
        }
        Node program = parser.read();
        if (program == null) {
            return -1000 * parser.error - parser.place;
        }
        programs[programCount] = program;
        programCount++;
        return programCount - 1;
    }

    public int type(int parent) throws IllegalArgumentException, IllegalStateException {
        Family above = familyAt(parent);
        if (above == null && parent != NONE) {
            throw new IllegalArgumentException("the parent is no class");
        }
        if (familyCount >= families.length) {
            throw new IllegalStateException("there are 5 classes");
        }
        families[familyCount] = new Family(familyCount, above);
        familyCount++;
        return familyCount - 1;
    }

    public int field(int c, int name, int type) throws IllegalArgumentException, IllegalStateException {
        Family family = familyAt(c);
        if (family == null || !isName(name) || !isType(type)) {
            throw new IllegalArgumentException("no such class, name or type");
        }
        if (family.fieldCount >= MOST_FIELDS || family.ownField(name) != null || objectCount > 0) {
            throw new IllegalStateException("the class can't get this field");
        }
        family.addField(name, type);
        return family.fieldCount;
    }

    public int method(int c, int name, int one, int two, int action, int number)
            throws IllegalArgumentException, IllegalStateException {
        Family family = familyAt(c);
        if (family == null || !isName(name) || action < 0 || action > 5 || !areParameters(one, two)) {
            throw new IllegalArgumentException("no such class, name, type or action");
        }
        if (family.routineCount >= MOST_METHODS) {
            throw new IllegalStateException("the class has 6 methods");
        }
        family.addRoutine(new Routine(name, one, two, action, number));
        return family.routineCount;
    }

    public int make(int c) throws IllegalArgumentException, IllegalStateException {
        Family family = familyAt(c);
        if (family == null) {
            throw new IllegalArgumentException("there is no such class");
        }
        if (objectCount >= objects.length) {
            throw new IllegalStateException("there are 30 objects");
        }
        objects[objectCount] = Value.ofThing(new Thing(objectCount, family, runner.nothing));
        objectCount++;
        return objectCount - 1;
    }

    public boolean converter(int from, int to, boolean there) throws IllegalArgumentException {
        boolean known = from >= BOOL && from <= ANY || from >= OBJECT && from < OBJECT + MOST_CLASSES;
        if (!known || to < BOOL || to > TEXT || from == to) {
            throw new IllegalArgumentException("no converter goes from and to such types");
        }
        return runner.converters.change(from, to, there);
    }

    public int run(int program, int root) throws IllegalArgumentException {
        Node node = program >= 0 && program < programCount && program < programs.length ? programs[program] : null;
        Value object = root == NONE ? runner.nothing : objectAt(root);
        if (node == null || object == null) {
            throw new IllegalArgumentException("there is no such program or object");
        }
        runner.begin(object);
        Value value = runner.eval(node, 0);
        latest = value == null ? runner.nothing : value;
        return runner.failure;
    }

    public int keep(int name) throws IllegalArgumentException, IllegalStateException {
        if (!isName(name)) {
            throw new IllegalArgumentException("not the code of a name");
        }
        if (!runner.setVariable(name, latest)) {
            throw new IllegalStateException("there are 12 other variables");
        }
        return latest.kind;
    }

    public int result(int what) {
        switch (what) {
            case 0:
                return latest.kind;
            case 1:
                return latest.number;
            case 2:
                return latest.kind == REAL ? (int) (1000.0 * latest.real) : 0;
            default:
                return NONE;
        }
    }

    public int text(int i) {
        return i >= 0 && i < latest.chars.length() ? latest.chars.charAt(i) : NONE;
    }

    public int put(int o, int name) throws IllegalArgumentException {
        Value object = objectAt(o);
        if (object == null) {
            throw new IllegalArgumentException("there is no such object");
        }
        runner.begin(runner.nothing);
        runner.setField(object, name, latest);
        return runner.failure;
    }

    public int about(int what) {
        switch (what) {
            case 0:
                return parser.lexer.length;
            case 1:
                return programCount;
            case 2:
                return familyCount;
            case 3:
                return objectCount;
            case 4:
                return runner.variableCount;
            default:
                return NONE;
        }
    }

    private Family familyAt(int c) {
        return c >= 0 && c < familyCount && c < families.length ? families[c] : null;
    }

    private Value objectAt(int o) {
        return o >= 0 && o < objectCount && o < objects.length ? objects[o] : null;
    }

    private static boolean isName(int name) {
        return name >= 1 && name <= LAST_NAME;
    }

    private boolean isType(int type) {
        return type >= BOOL && type <= ANY || type >= OBJECT && type < OBJECT + familyCount;
    }

    private boolean areParameters(int one, int two) {
        if (one == 0) {
            return two == 0;
        }
        return isType(one) && (two == 0 || isType(two));
    }

    /** A value; it never changes. */
    private static final class Value {
        final int kind;
        /** A BOOL as 1 or 0, an INT, a REAL as (int), a TEXT's length, an object's number, 0 of NULL. */
        final int number;
        /** An INT or REAL as a double, so that numbers of both kinds meet in one field. */
        final double real;
        final String chars;
        /** The object itself; null for every other kind. */
        final Thing thing;

        private Value(int kind, int number, double real, String chars, Thing thing) {
            this.kind = kind;
            this.number = number;
            this.real = real;
            this.chars = chars;
            this.thing = thing;
        }

        static Value ofNull() {
            return new Value(NULL, 0, 0.0, "", null);
        }

        static Value ofBool(boolean yes) {
            return new Value(BOOL, yes ? 1 : 0, 0.0, "", null);
        }

        static Value ofInt(int number) {
            return new Value(INT, number, (double) number, "", null);
        }

        static Value ofReal(double real) {
            return new Value(REAL, (int) real, real, "", null);
        }

        static Value ofText(String chars) {
            return new Value(TEXT, chars.length(), 0.0, chars, null);
        }

        static Value ofThing(Thing thing) {
            return new Value(thing.family.kind, thing.number, 0.0, "", thing);
        }

        boolean isNumber() {
            return kind == INT || kind == REAL;
        }

        boolean isTrue() {
            return kind == BOOL && number == 1;
        }

        boolean fits(int type) {
            if (type == ANY || kind == type) {
                return true;
            }
            if (kind == NULL) {
                return type == TEXT || type >= OBJECT;
            }
            return stepsUpTo(type) != NONE;
        }

        /** The weight of a type that the value fits. */
        int weight(int type) {
            if (kind == type || kind == NULL) {
                return 0;
            }
            return type == ANY ? 16 : 2 * stepsUpTo(type);
        }

        private int stepsUpTo(int type) {
            int steps = 0;
            for (Family family = thing == null ? null : thing.family; family != null; family = family.parent) {
                if (family.kind == type) {
                    return steps;
                }
                steps++;
            }
            return NONE;
        }
    }

    /** A field of a class; its slot is its place in the row of values that every object has. */
    private static final class Field {
        final int name;
        final int type;
        final int slot;

        Field(int name, int type, int slot) {
            this.name = name;
            this.type = type;
            this.slot = slot;
        }
    }

    /** A method of a class. */
    private static final class Routine {
        final int name;
        final int one;
        final int two;
        final int parameters;
        final int action;
        final int number;

        Routine(int name, int one, int two, int action, int number) {
            this.name = name;
            this.one = one;
            this.two = two;
            this.parameters = one == 0 ? 0 : two == 0 ? 1 : 2;
            this.action = action;
            this.number = number;
        }
    }

    /** A class of the language. */
    private static final class Family {
        final int number;
        final int kind;
        final Family parent;
        private final Field[] fields;
        int fieldCount;
        private final Routine[] routines;
        int routineCount;

        Family(int number, Family parent) {
            this.number = number;
            this.kind = OBJECT + number;
            this.parent = parent;
            this.fields = new Field[MOST_FIELDS];
            this.routines = new Routine[MOST_METHODS];
        }

        void addField(int name, int type) {
            if (fieldCount < fields.length) {
                fields[fieldCount] = new Field(name, type, number * MOST_FIELDS + fieldCount);
                fieldCount++;
            }
        }

        void addRoutine(Routine routine) {
            if (routineCount < routines.length) {
                routines[routineCount] = routine;
                routineCount++;
            }
        }

        Routine routineAt(int i) {
            return i >= 0 && i < routineCount && i < routines.length ? routines[i] : null;
        }

        Field ownField(int name) {
            for (int i = 0; i < fieldCount && i < fields.length; i++) {
                Field field = fields[i];
                if (field != null && field.name == name) {
                    return field;
                }
            }
            return null;
        }

        Field nearestField(int name) {
            for (Family family = this; family != null; family = family.parent) {
                Field field = family.ownField(name);
                if (field != null) {
                    return field;
                }
            }
            return null;
        }
    }

    /** An object of the language. */
    private static final class Thing {
        final int number;
        final Family family;
        private final Value[] values;

        Thing(int number, Family family, Value nothing) {
            this.number = number;
            this.family = family;
            this.values = new Value[MOST_CLASSES * MOST_FIELDS];
            for (int i = 0; i < values.length; i++) {
                values[i] = nothing;
            }
        }

        /** The value of the field of that name; null when there is no such field. */
        Value valueOf(int name) {
            Field field = family.nearestField(name);
            if (field == null || field.slot < 0 || field.slot >= values.length) {
                return null;
            }
            return values[field.slot];
        }

        void hold(Field field, Value value) {
            if (field.slot >= 0 && field.slot < values.length) {
                values[field.slot] = value;
            }
        }
    }

    /** The text that grows letter by letter, and the tokens that it is cut into. */
    private static final class Lexer {
        static final int END = 0;
        static final int LITERAL = 1;
        static final int NAME = 2;

        private static final int LONGEST_NUMBER = 6;
        private static final int MOST_DECIMALS = 3;
        private static final int LONGEST_NAME = 5;
        private static final int LONGEST_QUOTED = 8;

        private final char[] letters;
        int length;
        private final int[] kinds;
        private final int[] places;
        private final int[] names;
        private final Value[] literals;
        private int count;
        private final StringBuilder scratch;

        Lexer() {
            letters = new char[MOST_LETTERS];
            // one more than letters, for the end behind them
            kinds = new int[MOST_LETTERS + 1];
            places = new int[MOST_LETTERS + 1];
            names = new int[MOST_LETTERS + 1];
            literals = new Value[MOST_LETTERS + 1];
            scratch = new StringBuilder();
        }

        void append(char c) {
            if (length < letters.length) {
                letters[length] = c;
                length++;
            }
        }

        int kindAt(int i) {
            return i >= 0 && i < count && i < kinds.length ? kinds[i] : END;
        }

        int placeAt(int i) {
            return i >= 0 && i < count && i < places.length ? places[i] : 0;
        }

        int nameAt(int i) {
            return i >= 0 && i < count && i < names.length ? names[i] : 0;
        }

        Value literalAt(int i) {
            return i >= 0 && i < count && i < literals.length ? literals[i] : null;
        }

        /** Cuts the whole text; answers NONE, or the place of what is no token. */
        int cut() {
            count = 0;
            int at = 0;
            while (at < length) {
                int end = peek(at) == ' ' ? at + 1 : token(at);
                if (end <= at) {
                    return at;
                }
                at = end;
            }
            add(END, length, 0, null);
            return NONE;
        }

        /** Adds the token that begins there; answers where it ends, or NONE. */
        private int token(int at) {
            char c = peek(at);
            if (isDigit(c)) {
                return number(at);
            }
            if (isLowerCase(c)) {
                return name(at);
            }
            return c == '\'' ? quoted(at) : sign(at);
        }

        private int number(int at) {
            int end = endOfDigits(at);
            if (end - at > LONGEST_NUMBER) {
                return NONE;
            }
            int last = peek(end) == '.' ? endOfDigits(end + 1) : end;
            if (last <= end + 1) {
                add(LITERAL, at, 0, Value.ofInt(digits(at, end, 0)));
                return end;
            }
            int decimals = last - end - 1;
            if (decimals > MOST_DECIMALS) {
                return NONE;
            }
            double scale = decimals == 1 ? 10.0 : decimals == 2 ? 100.0 : 1000.0;
            double withoutPoint = (double) digits(end + 1, last, digits(at, end, 0));
            add(LITERAL, at, 0, Value.ofReal(withoutPoint / scale));
            return last;
        }

        private int endOfDigits(int from) {
            int end = from;
            while (end < length && isDigit(peek(end))) {
                end++;
            }
            return end;
        }

        /** The number that the digits make behind those of the number ahead. */
        private int digits(int from, int end, int ahead) {
            int number = ahead;
            for (int i = from; i < end; i++) {
                number = number * 10 + (peek(i) - '0');
            }
            return number;
        }

        private int name(int at) {
            int code = 0;
            int end = at;
            while (end < length && isLowerCase(peek(end))) {
                code = code * 27 + (peek(end) - 'a' + 1);
                end++;
            }
            if (end - at > LONGEST_NAME) {
                return NONE;
            }
            add(NAME, at, code, null);
            return end;
        }

        private int quoted(int at) {
            scratch.setLength(0);
            int end = at + 1;
            while (end < length && peek(end) != '\'') {
                scratch.append(peek(end));
                end++;
            }
            if (end >= length || scratch.length() > LONGEST_QUOTED) {
                return NONE;
            }
            add(LITERAL, at, 0, Value.ofText(scratch.toString()));
            return end + 1;
        }

        private int sign(int at) {
            int pair = peek(at) * 256 + peek(at + 1);
            if (isPair(pair)) {
                add(pair, at, 0, null);
                return at + 2;
            }
            if (isSingle(peek(at))) {
                add(peek(at), at, 0, null);
                return at + 1;
            }
            return NONE;
        }

        private void add(int kind, int place, int name, Value literal) {
            if (count < kinds.length && count < places.length && count < names.length && count < literals.length) {
                kinds[count] = kind;
                places[count] = place;
                names[count] = name;
                literals[count] = literal;
                count++;
            }
        }

        private char peek(int at) {
            return at >= 0 && at < length && at < letters.length ? letters[at] : (char) 0;
        }

        private static boolean isDigit(char c) {
            return c >= '0' && c <= '9';
        }

        private static boolean isLowerCase(char c) {
            return c >= 'a' && c <= 'z';
        }

        private static boolean isPair(int pair) {
            switch (pair) {
                case AT_MOST:
                case AT_LEAST:
                case SAME:
                case OTHER:
                case AND:
                case OR:
                case OR_ELSE:
                case IF_THERE:
                    return true;
                default:
                    return false;
            }
        }

        private static boolean isSingle(char c) {
            switch (c) {
                case '+':
                case '-':
                case '*':
                case '/':
                case '%':
                case '<':
                case '>':
                case '!':
                case '?':
                case ':':
                case '.':
                case '(':
                case ')':
                case ',':
                case '#':
                case '=':
                    return true;
                default:
                    return false;
            }
        }
    }

    /** A piece of a program; an operator's op is its sign, the other ops stand here. */
    private static final class Node {
        static final int LITERAL = 1;
        static final int ROOT = 2;
        static final int VARIABLE = 3;
        static final int PROPERTY = 4;
        static final int CALL = 5;
        static final int NEGATE = 6;

        final int op;
        final int name;
        final Value literal;
        /** What the op works on; of a property or call the first is the value ahead of the point. */
        final Node one;
        final Node two;
        final Node three;
        /** Whether a ?. stands ahead of the name. */
        boolean lenient;
        /** Whether brackets stand round it: it can't be set then. */
        boolean bracketed;

        private Node(int op, int name, Value literal, Node one, Node two, Node three) {
            this.op = op;
            this.name = name;
            this.literal = literal;
            this.one = one;
            this.two = two;
            this.three = three;
        }

        static Node ofLiteral(Value literal) {
            return new Node(LITERAL, 0, literal, null, null, null);
        }

        static Node ofRoot() {
            return new Node(ROOT, 0, null, null, null, null);
        }

        static Node ofVariable(int name) {
            return new Node(VARIABLE, name, null, null, null, null);
        }

        static Node ofProperty(Node owner, int name) {
            return new Node(PROPERTY, name, null, owner, null, null);
        }

        static Node ofCall(Node owner, int name, Node first, Node second) {
            return new Node(CALL, name, null, owner, first, second);
        }

        static Node ofOperator(int op, Node one, Node two, Node three) {
            return new Node(op, 0, null, one, two, three);
        }

        int arguments() {
            return two == null ? 0 : three == null ? 1 : 2;
        }

        boolean canBeSet() {
            return !bracketed && (op == VARIABLE || op == PROPERTY);
        }
    }

    /** Reads the tokens by the grammar; a reading method answers null once a token was refused. */
    private static final class Parser {
        private static final int TRUE_NAME = ((20 * 27 + 18) * 27 + 21) * 27 + 5;
        private static final int FALSE_NAME = (((6 * 27 + 1) * 27 + 12) * 27 + 19) * 27 + 5;
        private static final int NULL_NAME = ((14 * 27 + 21) * 27 + 12) * 27 + 12;

        private static final int DEEPEST = 4;

        // The levels of the grammar, from either down to product.
        private static final int EITHER = 0;
        private static final int BOTH = 1;
        private static final int TEST = 2;
        private static final int SUM = 3;
        private static final int PRODUCT = 4;

        final Lexer lexer;
        private int at;
        int error;
        int place;

        Parser() {
            lexer = new Lexer();
        }

        /** Reads the text, which is empty then; answers null when there is an error. */
        Node read() {
            at = 0;
            error = 0;
            place = lexer.cut();
            Node program = null;
            if (place == NONE) {
                program = phrase();
            } else {
                error = NO_TOKEN;
            }
            lexer.length = 0;
            return program;
        }

        private Node phrase() {
            Node left = choice(0);
            Node all = left;
            if (left != null && kind() == '=' && left.canBeSet()) {
                at++;
                Node right = choice(0);
                all = right == null ? null : Node.ofOperator('=', left, right, null);
            }
            return all != null && kind() != Lexer.END ? refuse(NO_FIT) : all;
        }

        private Node choice(int depth) {
            if (depth > DEEPEST) {
                return refuse(TOO_DEEP);
            }
            Node left = level(EITHER, depth);
            if (left == null) {
                return null;
            }
            if (takes(OR_ELSE)) {
                Node right = choice(depth + 1);
                return right == null ? null : Node.ofOperator(OR_ELSE, left, right, null);
            }
            return takes('?') ? chosen(left, depth) : left;
        }

        private Node chosen(Node question, int depth) {
            Node yes = choice(depth + 1);
            if (yes == null) {
                return null;
            }
            if (!takes(':')) {
                return refuse(NO_FIT);
            }
            Node no = choice(depth + 1);
            return no == null ? null : Node.ofOperator('?', question, yes, no);
        }

        private Node level(int level, int depth) {
            if (level > PRODUCT) {
                return sign(depth);
            }
            Node left = level(level + 1, depth);
            for (int turn = 0; turn < MOST_LETTERS && left != null && levelOf(kind()) == level; turn++) {
                int op = kind();
                at++;
                Node right = level(level + 1, depth);
                left = right == null ? null : Node.ofOperator(op, left, right, null);
                if (level == TEST) {
                    break;
                }
            }
            return left;
        }

        private static int levelOf(int sign) {
            switch (sign) {
                case OR:
                    return EITHER;
                case AND:
                    return BOTH;
                case '<':
                case '>':
                case AT_MOST:
                case AT_LEAST:
                case SAME:
                case OTHER:
                    return TEST;
                case '+':
                case '-':
                    return SUM;
                case '*':
                case '/':
                case '%':
                    return PRODUCT;
                default:
                    return NONE;
            }
        }

        private Node sign(int depth) {
            int op = takes('-') ? Node.NEGATE : takes('!') ? '!' : NONE;
            Node chain = chain(depth);
            return chain == null || op == NONE ? chain : Node.ofOperator(op, chain, null, null);
        }

        private Node chain(int depth) {
            Node node = first(depth);
            for (int turn = 0; turn < MOST_LETTERS && node != null; turn++) {
                boolean lenient = takes(IF_THERE);
                if (!lenient && !takes('.')) {
                    break;
                }
                node = kind() == Lexer.NAME ? member(node, depth) : refuse(NO_FIT);
                if (node != null) {
                    node.lenient = lenient;
                }
            }
            return node;
        }

        private Node first(int depth) {
            if (kind() == Lexer.LITERAL) {
                at++;
                return Node.ofLiteral(lexer.literalAt(at - 1));
            }
            if (takes('#')) {
                return kind() == Lexer.NAME ? Node.ofVariable(takeName()) : refuse(NO_FIT);
            }
            if (takes('(')) {
                return bracketed(depth);
            }
            return kind() == Lexer.NAME ? named(depth) : refuse(NO_FIT);
        }

        private Node bracketed(int depth) {
            Node inner = choice(depth + 1);
            if (inner == null) {
                return null;
            }
            if (!takes(')')) {
                return refuse(NO_FIT);
            }
            inner.bracketed = true;
            return inner;
        }

        private Node named(int depth) {
            switch (lexer.nameAt(at)) {
                case TRUE_NAME:
                    at++;
                    return Node.ofLiteral(Value.ofBool(true));
                case FALSE_NAME:
                    at++;
                    return Node.ofLiteral(Value.ofBool(false));
                case NULL_NAME:
                    at++;
                    return Node.ofLiteral(Value.ofNull());
                default:
                    return member(Node.ofRoot(), depth);
            }
        }

        /** The property or call whose name stands next. */
        private Node member(Node owner, int depth) {
            int name = takeName();
            if (!takes('(')) {
                return Node.ofProperty(owner, name);
            }
            if (takes(')')) {
                return Node.ofCall(owner, name, null, null);
            }
            Node first = choice(depth + 1);
            if (first == null) {
                return null;
            }
            Node second = null;
            if (takes(',')) {
                second = choice(depth + 1);
                if (second == null) {
                    return null;
                }
            }
            return takes(')') ? Node.ofCall(owner, name, first, second) : refuse(NO_FIT);
        }

        private int kind() {
            return lexer.kindAt(at);
        }

        private boolean takes(int sign) {
            if (kind() != sign) {
                return false;
            }
            at++;
            return true;
        }

        private int takeName() {
            at++;
            return lexer.nameAt(at - 1);
        }

        private Node refuse(int why) {
            error = why;
            place = lexer.placeAt(at);
            return null;
        }
    }

    /** Which converters are there, and what they make of a value. */
    private static final class Converters {
        private static final int TARGETS = TEXT + 1;

        private final boolean[] there;
        private final StringBuilder scratch;

        Converters() {
            there = new boolean[(OBJECT + MOST_CLASSES) * TARGETS];
            scratch = new StringBuilder();
        }

        /** Answers whether the converter was there before. */
        boolean change(int from, int to, boolean now) {
            boolean before = isThere(from, to);
            int i = from * TARGETS + to;
            if (i >= 0 && i < there.length) {
                there[i] = now;
            }
            return before;
        }

        private boolean isThere(int from, int to) {
            int i = from * TARGETS + to;
            return to >= BOOL && to <= TEXT && i >= 0 && i < there.length && there[i];
        }

        /** Whether the value fits the type or can be converted to it. */
        boolean suit(Value value, int type) {
            return value.fits(type) || reach(value, type);
        }

        /** Whether there is a converter for the value; from NULL's own kind there never is one. */
        boolean reach(Value value, int type) {
            if (isThere(ANY, type) || isThere(value.kind, type)) {
                return true;
            }
            Family family = value.thing == null ? null : value.thing.family.parent;
            for (; family != null; family = family.parent) {
                if (isThere(family.kind, type)) {
                    return true;
                }
            }
            return false;
        }

        /** The value as one of BOOL, INT, REAL or TEXT; null when a TEXT is not as it must be. */
        Value convert(Value value, int type) {
            if (value.kind == type) {
                return value;
            }
            switch (type) {
                case BOOL:
                    return toBool(value);
                case INT:
                    return toInt(value);
                case REAL:
                    Value whole = toInt(value);
                    return whole == null ? null : Value.ofReal((double) whole.number);
                default:
                    return Value.ofText(asText(value));
            }
        }

        private static Value toBool(Value value) {
            if (value.kind == TEXT) {
                boolean yes = value.chars.equals("true");
                return yes || value.chars.equals("false") ? Value.ofBool(yes) : null;
            }
            boolean isObject = value.thing != null;
            return Value.ofBool(isObject || value.number != 0 || value.real != 0.0);
        }

        private static Value toInt(Value value) {
            if (value.kind != TEXT) {
                return Value.ofInt(value.number);
            }
            String chars = value.chars;
            int length = chars.length();
            boolean negative = length > 0 && chars.charAt(0) == '-';
            int begin = negative ? 1 : 0;
            if (length - begin < 1 || length - begin > 9) {
                return null;
            }
            int number = 0;
            for (int i = begin; i < length; i++) {
                char c = chars.charAt(i);
                if (c < '0' || c > '9') {
                    return null;
                }
                number = number * 10 + (c - '0');
            }
            return Value.ofInt(negative ? -number : number);
        }

        String asText(Value value) {
            switch (value.kind) {
                case NULL:
                    return "null";
                case BOOL:
                    return value.number == 1 ? "true" : "false";
                case TEXT:
                    return value.chars;
                default:
                    scratch.setLength(0);
                    if (value.thing != null) {
                        scratch.append('o');
                    }
                    scratch.append(value.number);
                    return scratch.toString();
            }
        }

        /** Both as TEXT, one behind the other; null when that is too long. */
        Value join(Value a, Value b) {
            String left = asText(a);
            String right = asText(b);
            if (left.length() + right.length() > LONGEST_TEXT) {
                return null;
            }
            scratch.setLength(0);
            scratch.append(left);
            scratch.append(right);
            return Value.ofText(scratch.toString());
        }
    }

    /**
     * Finds which method a call means. An argument that is not given is NULL here and its type 0, which is NULL's
     * kind: so it fits and weighs nothing.
     */
    private static final class Finder {
        private final Routine[] candidates;
        private int count;
        int failure;

        Finder() {
            candidates = new Routine[MOST_CLASSES * MOST_METHODS];
        }

        /** The method, or null and a failure. */
        Routine find(Family family, Node call, Value one, Value two, Converters converters) {
            collect(family, call.name, call.arguments());
            Routine found = exact(one, two);
            if (found == null) {
                found = closest(one, two);
            }
            return found == null ? convertible(one, two, converters) : found;
        }

        private void collect(Family from, int name, int parameters) {
            count = 0;
            for (Family family = from; family != null; family = family.parent) {
                for (int i = 0; i < family.routineCount; i++) {
                    Routine routine = family.routineAt(i);
                    if (routine != null && routine.name == name && routine.parameters == parameters) {
                        addUnlessHidden(routine);
                    }
                }
            }
        }

        private void addUnlessHidden(Routine routine) {
            for (int i = 0; i < count && i < candidates.length; i++) {
                Routine earlier = candidates[i];
                if (earlier != null && earlier.one == routine.one && earlier.two == routine.two) {
                    return;
                }
            }
            if (count < candidates.length) {
                candidates[count] = routine;
                count++;
            }
        }

        private Routine exact(Value one, Value two) {
            for (int i = 0; i < count && i < candidates.length; i++) {
                Routine routine = candidates[i];
                if (routine != null && one.kind == routine.one && two.kind == routine.two) {
                    return routine;
                }
            }
            return null;
        }

        private Routine closest(Value one, Value two) {
            Routine best = null;
            int least = 0;
            for (int i = 0; i < count && i < candidates.length; i++) {
                Routine routine = candidates[i];
                if (routine != null && one.fits(routine.one) && two.fits(routine.two)) {
                    int weight = one.weight(routine.one) + two.weight(routine.two);
                    if (best == null || weight < least) {
                        best = routine;
                        least = weight;
                    }
                }
            }
            return best;
        }

        private Routine convertible(Value one, Value two, Converters converters) {
            Routine only = null;
            for (int i = 0; i < count && i < candidates.length; i++) {
                Routine routine = candidates[i];
                if (routine != null && converters.suit(one, routine.one) && converters.suit(two, routine.two)) {
                    if (only != null) {
                        failure = SEVERAL_METHODS;
                        return null;
                    }
                    only = routine;
                }
            }
            failure = NO_METHOD;
            return only;
        }
    }

    /** Runs programs; a method that answers a Value answers null once the run has failed. */
    private static final class Runner {
        private static final int LEN_NAME = (12 * 27 + 5) * 27 + 14;
        private static final long BIGGEST = 1000000000000L;

        final Value nothing;
        final Converters converters;
        private final Finder finder;
        private final int[] variableNames;
        private final Value[] variableValues;
        int variableCount;
        private Value root;
        int failure;

        Runner() {
            nothing = Value.ofNull();
            converters = new Converters();
            finder = new Finder();
            variableNames = new int[MOST_VARIABLES];
            variableValues = new Value[MOST_VARIABLES];
            root = nothing;
        }

        void begin(Value newRoot) {
            root = newRoot;
            failure = 0;
        }

        private Value fail(int why) {
            failure = why;
            return null;
        }

        /** No program is deeper than it has characters, so the guard refuses none. */
        private Value eval(Node node, int depth) {
            if (node == null || depth > MOST_LETTERS) {
                return fail(WRONG_KIND);
            }
            switch (node.op) {
                case Node.LITERAL:
                    return node.literal;
                case Node.ROOT:
                    return root;
                case Node.VARIABLE:
                    return variable(node.name);
                case Node.PROPERTY:
                    return property(eval(node.one, depth + 1), node.name, node.lenient);
                case Node.CALL:
                    return call(node, depth);
                case Node.NEGATE:
                    return negative(eval(node.one, depth + 1));
                case '!':
                    return opposite(eval(node.one, depth + 1));
                case AND:
                case OR:
                    return logic(node, depth);
                case '?':
                    return chosen(node, depth);
                case OR_ELSE:
                    return orElse(node, depth);
                case '=':
                    return set(node, depth);
                default:
                    return combined(node, depth);
            }
        }

        private Value property(Value owner, int name, boolean lenient) {
            if (owner == null) {
                return null;
            }
            if (owner.kind == NULL) {
                return lenient ? nothing : fail(OF_NULL);
            }
            if (owner.kind == TEXT && name == LEN_NAME) {
                return Value.ofInt(owner.chars.length());
            }
            Value value = owner.thing == null ? null : owner.thing.valueOf(name);
            return value == null ? fail(NO_MEMBER) : value;
        }

        private Value call(Node node, int depth) {
            Value owner = eval(node.one, depth + 1);
            if (owner == null) {
                return null;
            }
            if (owner.kind == NULL) {
                return node.lenient ? nothing : fail(OF_NULL);
            }
            Value one = node.two == null ? nothing : eval(node.two, depth + 1);
            if (one == null) {
                return null;
            }
            Value two = node.three == null ? nothing : eval(node.three, depth + 1);
            if (two == null) {
                return null;
            }
            if (owner.thing == null) {
                return fail(NO_MEMBER);
            }
            Routine routine = finder.find(owner.thing.family, node, one, two, converters);
            if (routine == null) {
                return fail(finder.failure);
            }
            Value first = fit(one, routine.one);
            Value second = first == null ? null : fit(two, routine.two);
            return second == null ? null : act(routine, owner, first, second);
        }

        private Value act(Routine routine, Value owner, Value one, Value two) {
            switch (routine.action) {
                case 0:
                    return Value.ofInt(routine.number);
                case 1:
                    return one;
                case 2:
                    return two;
                case 3:
                    return routine.parameters < 2 ? fail(WRONG_KIND) : add(one, two);
                case 4:
                    return owner;
                default:
                    return property(owner, routine.number, false);
            }
        }

        private Value negative(Value value) {
            if (value == null) {
                return null;
            }
            if (value.kind == INT) {
                return Value.ofInt(-value.number);
            }
            return value.kind == REAL ? Value.ofReal(-value.real) : fail(WRONG_KIND);
        }

        private Value opposite(Value value) {
            if (value == null) {
                return null;
            }
            return value.kind == BOOL ? Value.ofBool(!value.isTrue()) : fail(WRONG_KIND);
        }

        private Value logic(Node node, int depth) {
            Value left = bool(eval(node.one, depth + 1));
            if (left == null || left.isTrue() == (node.op == OR)) {
                return left;
            }
            return bool(eval(node.two, depth + 1));
        }

        private Value chosen(Node node, int depth) {
            Value question = bool(eval(node.one, depth + 1));
            if (question == null) {
                return null;
            }
            return eval(question.isTrue() ? node.two : node.three, depth + 1);
        }

        private Value bool(Value value) {
            return value == null || value.kind == BOOL ? value : fail(WRONG_KIND);
        }

        private Value orElse(Node node, int depth) {
            Value left = eval(node.one, depth + 1);
            if (left == null) {
                return null;
            }
            boolean empty = left.kind == NULL || left.kind == TEXT && left.chars.isEmpty();
            return empty ? eval(node.two, depth + 1) : left;
        }

        private Value set(Node node, int depth) {
            Node target = node.one;
            if (target == null) {
                return fail(WRONG_KIND);
            }
            if (target.op == Node.PROPERTY) {
                return setProperty(target, node.two, depth);
            }
            Value value = eval(node.two, depth + 1);
            if (value == null) {
                return null;
            }
            return setVariable(target.name, value) ? value : fail(TOO_MANY_VARIABLES);
        }

        private Value setProperty(Node target, Node right, int depth) {
            Value owner = eval(target.one, depth + 1);
            if (owner == null || owner.kind == NULL) {
                // the document gives this failure to an owner that failed, whatever failed in it
                return fail(OF_NULL);
            }
            if (owner.thing == null || owner.thing.valueOf(target.name) == null) {
                return fail(NO_MEMBER);
            }
            Value value = eval(right, depth + 1);
            return value == null ? null : setField(owner, target.name, value);
        }

        private Value setField(Value owner, int name, Value value) {
            Field field = owner.thing == null ? null : owner.thing.family.nearestField(name);
            if (field == null || owner.thing == null) {
                return fail(NO_MEMBER);
            }
            Value fitted = fit(value, field.type);
            if (fitted != null) {
                owner.thing.hold(field, fitted);
            }
            return fitted;
        }

        private Value fit(Value value, int type) {
            if (value.fits(type)) {
                return value;
            }
            if (!converters.reach(value, type)) {
                return fail(NO_CONVERTER);
            }
            Value converted = converters.convert(value, type);
            return converted == null ? fail(NOT_CONVERTED) : converted;
        }

        private Value combined(Node node, int depth) {
            Value a = eval(node.one, depth + 1);
            if (a == null) {
                return null;
            }
            Value b = eval(node.two, depth + 1);
            if (b == null) {
                return null;
            }
            switch (node.op) {
                case SAME:
                    return Value.ofBool(areSame(a, b));
                case OTHER:
                    return Value.ofBool(!areSame(a, b));
                case '+':
                    return add(a, b);
                case '-':
                case '*':
                case '/':
                case '%':
                    return calculate(node.op, a, b);
                default:
                    return compare(node.op, a, b);
            }
        }

        private static boolean areSame(Value a, Value b) {
            if (a.isNumber() && b.isNumber()) {
                return a.real == b.real;
            }
            return a.kind == b.kind && a.number == b.number && a.chars.equals(b.chars);
        }

        private Value compare(int op, Value a, Value b) {
            if (!a.isNumber() || !b.isNumber()) {
                return fail(WRONG_KIND);
            }
            switch (op) {
                case '<':
                    return Value.ofBool(a.real < b.real);
                case '>':
                    return Value.ofBool(a.real > b.real);
                case AT_MOST:
                    return Value.ofBool(a.real <= b.real);
                default:
                    return Value.ofBool(a.real >= b.real);
            }
        }

        private Value add(Value a, Value b) {
            if (!joins(a, b) && !joins(b, a)) {
                return calculate('+', a, b);
            }
            Value joined = converters.join(a, b);
            return joined == null ? fail(TOO_LONG) : joined;
        }

        private static boolean joins(Value joiner, Value other) {
            return joiner.kind == TEXT && other.kind <= TEXT && other.kind != REAL;
        }

        private Value calculate(int op, Value a, Value b) {
            if (a.kind == INT && b.kind == INT) {
                return ofInts(op, a.number, b.number);
            }
            if (op == '%' || !a.isNumber() || !b.isNumber()) {
                return fail(WRONG_KIND);
            }
            return ofReals(op, a.real, b.real);
        }

        private Value ofInts(int op, int a, int b) {
            switch (op) {
                case '+':
                    return Value.ofInt(a + b);
                case '-':
                    return Value.ofInt(a - b);
                case '*':
                    return Value.ofInt(a * b);
                case '/':
                    return b == 0 ? fail(BY_ZERO) : Value.ofInt(a / b);
                default:
                    return b == 0 ? fail(BY_ZERO) : Value.ofInt(a % b);
            }
        }

        private Value ofReals(int op, double a, double b) {
            if (op == '/' && b == 0.0) {
                return fail(BY_ZERO);
            }
            double real = op == '+' ? a + b : op == '-' ? a - b : op == '*' ? a * b : a / b;
            return real > (double) BIGGEST || real < (double) -BIGGEST ? fail(TOO_BIG) : Value.ofReal(real);
        }

        private Value variable(int name) {
            for (int i = 0; i < variableCount && i < variableNames.length && i < variableValues.length; i++) {
                if (variableNames[i] == name) {
                    return variableValues[i];
                }
            }
            return nothing;
        }

        /** Answers false when there is no room for one more variable. */
        boolean setVariable(int name, Value value) {
            int i = 0;
            while (i < variableCount && i < variableNames.length && variableNames[i] != name) {
                i++;
            }
            if (i >= variableNames.length || i >= variableValues.length) {
                return false;
            }
            variableNames[i] = name;
            variableValues[i] = value;
            if (i == variableCount) {
                variableCount++;
            }
            return true;
        }
    }
}
