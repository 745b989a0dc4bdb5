/**
 * Terms and their types in one language. The document (DOC.md) says what each call answers.
 *
 * A TERM is held as a row of numbers in the order in which its parts are looked at: a pair
 * (application, FUNCTION, PRODUCT) stands before its two parts. So a row is as long as the SIZE of
 * its TERM, and the FIRST STEP is the one that is met first from the left. A letter is the number
 * of binders between it and its own one, so that two TERMS are the same if their rows are.
 */
public final class ProofLine {
    public static final int NONE = -1;
    public static final int SIGN = -2;
    public static final int UNBOUND = -3;
    public static final int SORT = -4;
    public static final int KIND = -5;
    public static final int MISMATCH = -6;
    public static final int FUEL = -7;
    public static final int TAKEN = -8;

    private static final int LINE_LIMIT = 100;
    private static final int NAME_LIMIT = 8;
    private static final int NUMBER_LIMIT = 20;
    private static final int SIZE_LIMIT = 80;
    private static final int STEP_LIMIT = 60;

    // A character makes at most an atom and the application that joins it to its row.
    private static final int TOKEN_LIMIT = 2 * LINE_LIMIT;
    // A part within a part costs two characters of the line, but for the innermost ones; a TERM of
    // the greatest SIZE is less deep still.
    private static final int LEVEL_LIMIT = LINE_LIMIT / 2 + 4;
    // Nothing that has SIZE 1 writes more than a FUNCTION in brackets does of its own: (\a:.)
    private static final int OUTPUT_LIMIT = 6 * SIZE_LIMIT;

    private static final int NOTHING = -1;
    private static final int APPLY = 0;
    private static final int FUNCTION = 1;
    private static final int PRODUCT = 2;
    private static final int STAR = 3;
    private static final int HASH = 4;
    private static final int NATURAL = 5;
    private static final int ZERO = 6;
    private static final int SUCCESSOR = 7;
    private static final int RECURSION = 8;
    private static final int NAME = 10;
    // Only THE LINE's own row has these: elsewhere a number is written out.
    private static final int NUMBER = 20;
    private static final int LETTER = 50;

    // !p:N>*.p 0>(!n:N.p n>p(S n))>!n:N.p n
    private static final int[] RECURSION_TYPE = {
        PRODUCT, PRODUCT, NATURAL, STAR,
        PRODUCT, APPLY, LETTER, ZERO,
        PRODUCT, PRODUCT, NATURAL, PRODUCT, APPLY, LETTER + 2, LETTER,
        APPLY, LETTER + 3, APPLY, SUCCESSOR, LETTER + 1,
        PRODUCT, NATURAL, APPLY, LETTER + 3, LETTER
    };

    private final char[] line = new char[LINE_LIMIT];
    private int lineLength = 0;
    private final Fault fault = new Fault();
    private final Copier copier = new Copier();
    private final Names names = new Names();
    private final Reader reader;
    private final Reducer reducer;
    private final Typist typist;
    private final Writer writer = new Writer();
    private final Row work = new Row(SIZE_LIMIT);
    private final Row second = new Row(SIZE_LIMIT);

    public ProofLine() {
        reader = new Reader(names, fault);
        reducer = new Reducer(names, copier);
        typist = new Typist(reader, names, reducer, copier, fault);
    }

    public int type(int a, int b, int c, int d, int e) throws IllegalStateException {
        int more = charactersIn(a) + charactersIn(b) + charactersIn(c) + charactersIn(d) + charactersIn(e);
        if (lineLength + more > LINE_LIMIT) {
            throw new IllegalStateException();
        }
        append(a);
        append(b);
        append(c);
        append(d);
        append(e);
        return lineLength;
    }

    public int erase() {
        int had = lineLength;
        lineLength = 0;
        return had;
    }

    public int define(int name) throws IllegalArgumentException {
        if (name < 0 || name >= NAME_LIMIT) {
            throw new IllegalArgumentException();
        }
        fault.clear();
        if (names.isTold(name)) {
            return TAKEN;
        }
        if (!typist.find(line, lineLength)) {
            return fault.code;
        }
        takeLineTo(work);
        names.tell(name, work, typist.found());
        return 0;
    }

    public int check() {
        fault.clear();
        if (!typist.find(line, lineLength)) {
            return fault.code;
        }
        if (reducer.reduce(typist.found()) == FUEL) {
            fault.tell(FUEL, 0);
            return FUEL;
        }
        writer.show(typist.found());
        return writer.length;
    }

    public int normal() {
        fault.clear();
        if (!typist.find(line, lineLength)) {
            return fault.code;
        }
        takeLineTo(work);
        int steps = reducer.reduce(work);
        if (steps == FUEL) {
            fault.tell(FUEL, 0);
            return FUEL;
        }
        writer.show(work);
        return steps;
    }

    public int same(int one, int other) throws IllegalArgumentException {
        if (!names.isTold(one) || !names.isTold(other)) {
            throw new IllegalArgumentException();
        }
        fault.clear();
        work.become(names.terms[one]);
        second.become(names.terms[other]);
        if (reducer.reduce(work) == FUEL || reducer.reduce(second) == FUEL) {
            fault.tell(FUEL, 0);
            return FUEL;
        }
        return work.isPartOf(second, 0) ? 1 : 0;
    }

    public int place() {
        return fault.place;
    }

    public char output(int k) {
        return k >= 0 && k < writer.length ? writer.text[k] : ' ';
    }

    public int count(int what) {
        switch (what) {
            case 0:
                return names.howMany;
            case 1:
                return writer.length;
            case 2:
                return writer.size;
            default:
                return NONE;
        }
    }

    private static int charactersIn(int four) {
        int found = 0;
        for (int shift = 24; shift >= 0; shift -= 8) {
            if ((four >>> shift & 255) != 0) {
                found++;
            }
        }
        return found;
    }

    private void append(int four) {
        for (int shift = 24; shift >= 0; shift -= 8) {
            int character = four >>> shift & 255;
            if (character != 0 && lineLength < LINE_LIMIT) {
                line[lineLength] = (char) character;
                lineLength++;
            }
        }
    }

    private void takeLineTo(Row row) {
        row.clear();
        copier.addPart(reader.tokens, 0, 0, row);
    }

    private static boolean isPair(int token) {
        return token >= APPLY && token <= PRODUCT;
    }

    private static boolean isBinder(int token) {
        return token == FUNCTION || token == PRODUCT;
    }

    private static boolean isName(int token) {
        return token >= NAME && token < NAME + NAME_LIMIT;
    }

    private static boolean isNumber(int token) {
        return token >= NUMBER && token <= NUMBER + NUMBER_LIMIT;
    }

    private static boolean isLetter(int token) {
        return token >= LETTER;
    }

    /** What went wrong last, and where. */
    private static final class Fault {
        private int code = 0;
        private int place = NONE;

        void clear() {
            code = 0;
            place = NONE;
        }

        /** Always false, so that who finds the fault can answer with it. */
        boolean tell(int newCode, int newPlace) {
            code = newCode;
            place = newPlace;
            return false;
        }
    }

    /** A TERM, its parts in the order in which they are looked at. */
    private static final class Row {
        private final int[] code;
        private int size = 0;
        // More was added than has room: the TERM is too big for every use, so what is here counts for nothing.
        private boolean over = false;

        Row(int room) {
            code = new int[room];
        }

        void clear() {
            size = 0;
            over = false;
        }

        void add(int token) {
            if (size < code.length) {
                code[size] = token;
                size++;
            } else {
                over = true;
            }
        }

        void addRange(Row from, int start, int end) {
            for (int i = start; i < end; i++) {
                add(from.at(i));
            }
        }

        void addNumber(int number) {
            for (int i = 0; i < number; i++) {
                add(APPLY);
                add(SUCCESSOR);
            }
            add(ZERO);
        }

        void become(Row from) {
            clear();
            addRange(from, 0, from.size);
            over = over || from.over;
        }

        int at(int i) {
            return i >= 0 && i < size ? code[i] : NOTHING;
        }

        /** The index behind the part that begins at an index. */
        int end(int start) {
            int awaited = 1;
            int i = start;
            for (; i < size && awaited > 0; i++) {
                awaited += isPair(at(i)) ? 1 : -1;
            }
            return i;
        }

        boolean is(int token) {
            return size == 1 && !over && code[0] == token;
        }

        boolean isPartOf(Row whole, int start) {
            if (over || whole.over || whole.end(start) - start != size) {
                return false;
            }
            for (int i = 0; i < size; i++) {
                if (code[i] != whole.at(start + i)) {
                    return false;
                }
            }
            return true;
        }

        /** How often S is applied to 0 in the part at an index; NONE if it is something else. */
        int numberAt(int start) {
            int number = 0;
            int i = start;
            for (; i < size && at(i) == APPLY && at(i + 1) == SUCCESSOR; i += 2) {
                number++;
            }
            return at(i) == ZERO ? number : NONE;
        }
    }

    /** Goes over a part of a row and knows how many of the part's own binders hold each token. */
    private static final class Walk {
        private final int[] awaited = new int[TOKEN_LIMIT + 2];
        private int top = 0;
        private int depth = 0;

        void begin() {
            awaited[0] = 0;
            top = 1;
            depth = 0;
        }

        boolean isOpen() {
            return top > 0 && top < awaited.length;
        }

        void pass(int token) {
            if (top <= 0 || top >= awaited.length) {
                return;
            }
            top--;
            depth = awaited[top];
            if (isPair(token)) {
                awaited[top] = isBinder(token) ? depth + 1 : depth;
                awaited[top + 1] = depth;
                top += 2;
            }
        }
    }

    /** Copies parts of rows to where other binders stand round them. */
    private static final class Copier {
        private final Walk inPart = new Walk();
        private final Walk inBody = new Walk();

        /** Adds the part at start; its letters from outside get so many binders more between. */
        void addPart(Row from, int start, int between, Row to) {
            if (from.over) {
                to.over = true;
                return;
            }
            inPart.begin();
            for (int i = start; i < from.size && inPart.isOpen() && !to.over; i++) {
                int token = from.at(i);
                inPart.pass(token);
                if (isNumber(token)) {
                    to.addNumber(token - NUMBER);
                } else if (isLetter(token) && token - LETTER >= inPart.depth) {
                    to.add(token + between);
                } else {
                    to.add(token);
                }
            }
        }

        /** Adds a binder's last TERM, at body, with the part at first of another row for its letter. */
        void addWith(Row from, int body, Row given, int first, Row to) {
            inBody.begin();
            for (int i = body; i < from.size && inBody.isOpen() && !to.over; i++) {
                int token = from.at(i);
                inBody.pass(token);
                int outward = isLetter(token) ? token - LETTER - inBody.depth : NONE;
                if (outward == 0) {
                    addPart(given, first, inBody.depth, to);
                } else {
                    to.add(outward > 0 ? token - 1 : token);
                }
            }
        }
    }

    /** What was told: the TERM and the type of each NAME. */
    private static final class Names {
        private final Row[] terms = new Row[NAME_LIMIT];
        private final Row[] types = new Row[NAME_LIMIT];
        private final boolean[] told = new boolean[NAME_LIMIT];
        private int howMany = 0;

        Names() {
            for (int i = 0; i < NAME_LIMIT; i++) {
                terms[i] = new Row(SIZE_LIMIT);
                types[i] = new Row(SIZE_LIMIT);
            }
        }

        boolean isTold(int name) {
            return name >= 0 && name < NAME_LIMIT && told[name];
        }

        void tell(int name, Row term, Row itsType) {
            terms[name].become(term);
            types[name].become(itsType);
            told[name] = true;
            howMany++;
        }
    }

    /** Reads THE LINE: its row, and the place of every part. */
    private static final class Reader {
        // What may come next: a TERM; more of a row of ATOMS, or its end; a binder's letter; its colon.
        private static final int AT_TERM = 0;
        private static final int AT_MORE = 1;
        private static final int AT_LETTER = 2;
        private static final int AT_COLON = 3;
        private static final char NO_LETTER = 0;

        private final Names names;
        private final Fault fault;
        private final Row tokens = new Row(TOKEN_LIMIT);
        private final int[] places = new int[TOKEN_LIMIT];
        private final char[] bound = new char[LINE_LIMIT];
        private int boundCount = 0;
        private int state = AT_TERM;
        private int rowStart = 0;
        private int loneDigit = NONE;
        private char letter = NO_LETTER;

        // What is open, innermost last: the sign that closes it, and what was going on round it.
        private final char[] closing = new char[LINE_LIMIT];
        private final char[] openLetter = new char[LINE_LIMIT];
        private final int[] openPlace = new int[LINE_LIMIT];
        private final int[] openStart = new int[LINE_LIMIT];
        private final int[] outerRow = new int[LINE_LIMIT];
        private final int[] outerBound = new int[LINE_LIMIT];
        private int openCount = 0;

        Reader(Names names, Fault fault) {
            this.names = names;
            this.fault = fault;
        }

        boolean read(char[] line, int length) {
            tokens.clear();
            boundCount = 0;
            openCount = 0;
            loneDigit = NONE;
            beginTerm();
            for (int i = 0; i < length; i++) {
                if (line[i] != ' ' && !take(line[i], i)) {
                    return false;
                }
            }
            if (state != AT_MORE || openCount > 0) {
                return fault.tell(SIGN, length);
            }
            return true;
        }

        private boolean take(char sign, int place) {
            if (state == AT_LETTER) {
                return takeLetter(sign, place);
            }
            if (state == AT_COLON) {
                return takeColon(sign, place);
            }
            if (sign == '(') {
                open(')', place);
                return true;
            }
            if (state == AT_TERM && (sign == '\\' || sign == '!')) {
                addToken(sign == '!' ? PRODUCT : FUNCTION, place);
                state = AT_LETTER;
                return true;
            }
            if (state == AT_MORE && sign == '>') {
                insertPair(PRODUCT);
                bind(NO_LETTER);
                beginTerm();
                return true;
            }
            if (state == AT_MORE && openCount > 0 && sign == closing[openCount - 1]) {
                close();
                return true;
            }
            return isDigit(sign) ? takeDigit(sign - '0', place) : takeAtom(sign, place);
        }

        private boolean takeLetter(char sign, int place) {
            if (!isLetterSign(sign)) {
                return fault.tell(SIGN, place);
            }
            letter = sign;
            state = AT_COLON;
            return true;
        }

        private boolean takeColon(char sign, int place) {
            if (sign != ':') {
                return fault.tell(SIGN, place);
            }
            open('.', place);
            return true;
        }

        private boolean takeDigit(int digit, int place) {
            boolean second = loneDigit != NONE && loneDigit == place - 1;
            if (!second) {
                loneDigit = place;
                addAtom(NUMBER + digit, place);
                return true;
            }
            loneDigit = NONE;
            int last = tokens.size - 1;
            int number = 10 * (tokens.at(last) - NUMBER) + digit;
            if (number > NUMBER_LIMIT) {
                return fault.tell(SIGN, place);
            }
            tokens.code[last] = NUMBER + number;
            return true;
        }

        private boolean takeAtom(char sign, int place) {
            int token = tokenOf(sign);
            if (token == NOTHING) {
                return fault.tell(isLetterSign(sign) || isNameSign(sign) ? UNBOUND : SIGN, place);
            }
            addAtom(token, place);
            return true;
        }

        /** NOTHING for a letter or NAME that has nothing, and for a sign that is no ATOM. */
        private int tokenOf(char sign) {
            if (isLetterSign(sign)) {
                return boundToken(sign);
            }
            if (isNameSign(sign)) {
                return names.isTold(sign - 'A') ? NAME + sign - 'A' : NOTHING;
            }
            switch (sign) {
                case '*':
                    return STAR;
                case 'N':
                    return NATURAL;
                case 'S':
                    return SUCCESSOR;
                case 'R':
                    return RECURSION;
                default:
                    return NOTHING;
            }
        }

        private int boundToken(char sign) {
            for (int between = 0; between < boundCount; between++) {
                if (bound[boundCount - 1 - between] == sign) {
                    return LETTER + between;
                }
            }
            return NOTHING;
        }

        private static boolean isLetterSign(char sign) {
            return sign >= 'a' && sign <= 'z';
        }

        private static boolean isNameSign(char sign) {
            return sign >= 'A' && sign < 'A' + NAME_LIMIT;
        }

        private static boolean isDigit(char sign) {
            return sign >= '0' && sign <= '9';
        }

        private void beginTerm() {
            rowStart = tokens.size;
            state = AT_TERM;
        }

        private void addToken(int token, int place) {
            if (tokens.size < TOKEN_LIMIT) {
                places[tokens.size] = place;
            }
            tokens.add(token);
        }

        private void addAtom(int token, int place) {
            int start = tokens.size;
            addToken(token, place);
            joinAtom(start);
        }

        /** The ATOM that was read last begins at start: all of the row before it is applied to it. */
        private void joinAtom(int start) {
            if (start > rowStart) {
                insertPair(APPLY);
            }
            state = AT_MORE;
        }

        /** The row of ATOMS becomes the first part of a pair, which begins where the row does. */
        private void insertPair(int token) {
            int length = tokens.size - rowStart;
            if (length > 0 && tokens.size < TOKEN_LIMIT) {
                System.arraycopy(tokens.code, rowStart, tokens.code, rowStart + 1, length);
                System.arraycopy(places, rowStart, places, rowStart + 1, length);
                tokens.code[rowStart] = token;
                tokens.size++;
            }
        }

        private void bind(char sign) {
            if (boundCount < LINE_LIMIT) {
                bound[boundCount] = sign;
                boundCount++;
            }
        }

        private void open(char closedBy, int place) {
            if (openCount < LINE_LIMIT) {
                closing[openCount] = closedBy;
                openLetter[openCount] = letter;
                openPlace[openCount] = place;
                openStart[openCount] = tokens.size;
                outerRow[openCount] = rowStart;
                outerBound[openCount] = boundCount;
                openCount++;
            }
            beginTerm();
        }

        private void close() {
            openCount--;
            boundCount = outerBound[openCount];
            if (closing[openCount] == '.') {
                bind(openLetter[openCount]);
                beginTerm();
                return;
            }
            int start = openStart[openCount];
            places[start] = openPlace[openCount];
            rowStart = outerRow[openCount];
            joinAtom(start);
        }
    }

    /** Takes FIRST STEPS. */
    private static final class Reducer {
        private final Names names;
        private final Copier copier;
        private final Row next = new Row(SIZE_LIMIT);

        Reducer(Names names, Copier copier) {
            this.names = names;
            this.copier = copier;
        }

        /** Brings a row to its NORMAL FORM: how many STEPS that took, or FUEL. */
        int reduce(Row term) {
            for (int steps = 0; steps <= STEP_LIMIT && !term.over; steps++) {
                int at = firstStep(term);
                if (at == NONE) {
                    return steps;
                }
                takeStep(term, at);
            }
            return FUEL;
        }

        private static int firstStep(Row term) {
            for (int i = 0; i < term.size; i++) {
                if (isName(term.at(i)) || isCall(term, i) || isRecursion(term, i)) {
                    return i;
                }
            }
            return NONE;
        }

        private static boolean isCall(Row term, int at) {
            return term.at(at) == APPLY && term.at(at + 1) == FUNCTION;
        }

        private static boolean isRecursion(Row term, int at) {
            if (term.at(at + 4) != RECURSION) {
                return false;
            }
            for (int i = at; i < at + 4; i++) {
                if (term.at(i) != APPLY) {
                    return false;
                }
            }
            int number = term.end(term.end(term.end(at + 5)));
            return term.at(number) == ZERO || term.at(number) == APPLY && term.at(number + 1) == SUCCESSOR;
        }

        private void takeStep(Row term, int at) {
            next.clear();
            next.addRange(term, 0, at);
            if (isName(term.at(at))) {
                copier.addPart(names.terms[term.at(at) - NAME], 0, 0, next);
            } else if (isCall(term, at)) {
                int body = term.end(at + 2);
                copier.addWith(term, body, term, term.end(body), next);
            } else {
                addRecursion(term, at);
            }
            next.addRange(term, term.end(at), term.size);
            term.become(next);
        }

        private void addRecursion(Row term, int at) {
            int zeroCase = term.end(at + 5);
            int stepCase = term.end(zeroCase);
            int number = term.end(stepCase);
            if (term.at(number) == ZERO) {
                next.addRange(term, zeroCase, stepCase);
                return;
            }
            int before = number + 2;
            int end = term.end(number);
            next.add(APPLY);
            next.add(APPLY);
            next.addRange(term, stepCase, number);
            next.addRange(term, before, end);
            next.addRange(term, at, number);
            next.addRange(term, before, end);
        }
    }

    /** Finds the type of what was read. */
    private static final class Typist {
        private final Reader reader;
        private final Row tokens;
        private final Names names;
        private final Reducer reducer;
        private final Copier copier;
        private final Fault fault;
        // The type that is found at a level is needed there while those of its parts are looked for.
        private final Row[] types = new Row[LEVEL_LIMIT];
        private final Row result = new Row(SIZE_LIMIT);
        // Where the TERM behind the colon begins, for each binder round the part that is looked at.
        private final int[] domains = new int[LINE_LIMIT];
        private int domainCount = 0;

        Typist(Reader reader, Names names, Reducer reducer, Copier copier, Fault fault) {
            this.reader = reader;
            this.tokens = reader.tokens;
            this.names = names;
            this.reducer = reducer;
            this.copier = copier;
            this.fault = fault;
            for (int i = 0; i < LEVEL_LIMIT; i++) {
                types[i] = new Row(SIZE_LIMIT);
            }
        }

        /** Reads THE LINE and finds its type; false if it has none: then the fault is told. */
        boolean find(char[] line, int length) {
            domainCount = 0;
            return reader.read(line, length) && typeOf(0, 0);
        }

        Row found() {
            return types[0];
        }

        private boolean fail(int code, int at) {
            return fault.tell(code, at >= 0 && at < TOKEN_LIMIT ? reader.places[at] : NONE);
        }

        private boolean typeOf(int at, int level) {
            if (level >= LEVEL_LIMIT - 1) {
                return fail(FUEL, at);
            }
            switch (tokens.at(at)) {
                case APPLY:
                    return typeOfApplication(at, level);
                case FUNCTION:
                    return typeOfFunction(at, level);
                case PRODUCT:
                    return typeOfProduct(at, level);
                default:
                    setTypeOfAtom(tokens.at(at), types[level]);
                    return true;
            }
        }

        private boolean typeOfProduct(int at, int level) {
            if (!sortOf(at + 1, level + 1)) {
                return false;
            }
            enter(at + 1);
            boolean found = sortOf(tokens.end(at + 1), level + 1);
            leave();
            types[level].become(types[level + 1]);
            return found;
        }

        private boolean typeOfFunction(int at, int level) {
            if (!sortOf(at + 1, level + 1)) {
                return false;
            }
            int body = tokens.end(at + 1);
            enter(at + 1);
            boolean found = typeOf(body, level + 1);
            leave();
            if (!found) {
                return false;
            }
            if (types[level + 1].is(HASH)) {
                return fail(SORT, body);
            }
            Row product = types[level];
            product.clear();
            product.add(PRODUCT);
            copier.addPart(tokens, at + 1, 0, product);
            copier.addPart(types[level + 1], 0, 0, product);
            return true;
        }

        // The whole row of ATOMS at one level: rows can be long where brackets cannot be deep.
        private boolean typeOfApplication(int at, int level) {
            int head = at;
            for (int i = at; i < tokens.size && tokens.at(i) == APPLY; i++) {
                head = i + 1;
            }
            boolean found = typeOf(head, level);
            for (int pair = head - 1; pair >= at && found; pair--) {
                found = applyTo(pair, level);
            }
            return found;
        }

        /** From the type of what is applied to that of the application, both at the level. */
        private boolean applyTo(int at, int level) {
            int argument = tokens.end(at + 1);
            Row product = types[level];
            Row given = types[level + 1];
            if (reducer.reduce(product) == FUEL) {
                return fail(FUEL, at + 1);
            }
            if (product.at(0) != PRODUCT) {
                return fail(KIND, at + 1);
            }
            if (!typeOf(argument, level + 1)) {
                return false;
            }
            if (reducer.reduce(given) == FUEL) {
                return fail(FUEL, argument);
            }
            // As a part of a NORMAL FORM what the product asks for is one itself.
            if (!given.isPartOf(product, 1)) {
                return fail(MISMATCH, argument);
            }
            result.clear();
            copier.addWith(product, product.end(1), tokens, argument, result);
            product.become(result);
            return true;
        }

        /** Finds the SORT that the type of the part comes to. */
        private boolean sortOf(int at, int level) {
            if (!typeOf(at, level)) {
                return false;
            }
            if (reducer.reduce(types[level]) == FUEL) {
                return fail(FUEL, at);
            }
            return types[level].is(STAR) || types[level].is(HASH) || fail(SORT, at);
        }

        private void enter(int domain) {
            if (domainCount < LINE_LIMIT) {
                domains[domainCount] = domain;
            }
            domainCount++;
        }

        private void leave() {
            domainCount--;
        }

        private void setTypeOfAtom(int token, Row found) {
            found.clear();
            if (isLetter(token)) {
                int between = token - LETTER;
                int binder = domainCount - 1 - between;
                if (binder >= 0 && binder < LINE_LIMIT) {
                    copier.addPart(tokens, domains[binder], between + 1, found);
                }
            } else if (isName(token)) {
                found.become(names.types[token - NAME]);
            } else if (token == RECURSION) {
                for (int i = 0; i < RECURSION_TYPE.length; i++) {
                    found.add(RECURSION_TYPE[i]);
                }
            } else if (token == SUCCESSOR) {
                found.add(PRODUCT);
                found.add(NATURAL);
                found.add(NATURAL);
            } else if (token == STAR) {
                found.add(HASH);
            } else {
                found.add(token == NATURAL ? STAR : NATURAL);
            }
        }
    }

    /** THE OUTPUT. */
    private static final class Writer {
        private final char[] text = new char[OUTPUT_LIMIT];
        private int length = 0;
        private int size = 0;
        private final Walk walk = new Walk();

        void show(Row term) {
            length = 0;
            size = term.size;
            write(term, 0, 0, 0);
        }

        private void put(char sign) {
            if (length < OUTPUT_LIMIT) {
                text[length] = sign;
                length++;
            }
        }

        private void write(Row term, int at, int depth, int level) {
            int token = term.at(at);
            int number = term.numberAt(at);
            if (level >= LEVEL_LIMIT) {
                return;
            }
            if (number != NONE) {
                putNumber(number);
            } else if (token == APPLY) {
                int argument = term.end(at + 1);
                boolean atom = !isPair(term.at(argument)) || term.numberAt(argument) != NONE;
                writePart(term, at + 1, depth, level, isBinder(term.at(at + 1)));
                put(' ');
                writePart(term, argument, depth, level, !atom);
            } else if (isBinder(token)) {
                writeBinder(term, at, depth, level);
            } else {
                put(isLetter(token) ? letterAt(depth - 1 - (token - LETTER)) : signOf(token));
            }
        }

        private void writeBinder(Row term, int at, int depth, int level) {
            int body = term.end(at + 1);
            if (term.at(at) == PRODUCT && !usesLetter(term, body)) {
                writePart(term, at + 1, depth, level, isBinder(term.at(at + 1)));
                put('>');
            } else {
                put(term.at(at) == PRODUCT ? '!' : '\\');
                put(letterAt(depth));
                put(':');
                write(term, at + 1, depth, level + 1);
                put('.');
            }
            write(term, body, depth + 1, level + 1);
        }

        private void writePart(Row term, int at, int depth, int level, boolean brackets) {
            if (brackets) {
                put('(');
            }
            write(term, at, depth, level + 1);
            if (brackets) {
                put(')');
            }
        }

        private boolean usesLetter(Row term, int body) {
            walk.begin();
            for (int i = body; i < term.size && walk.isOpen(); i++) {
                walk.pass(term.at(i));
                if (term.at(i) == LETTER + walk.depth) {
                    return true;
                }
            }
            return false;
        }

        private void putNumber(int number) {
            if (number >= 10) {
                put((char) ('0' + number / 10));
            }
            put((char) ('0' + number % 10));
        }

        private static char letterAt(int depth) {
            return (char) ('a' + Math.floorMod(depth, 26));
        }

        private static char signOf(int token) {
            switch (token) {
                case STAR:
                    return '*';
                case HASH:
                    return '#';
                case NATURAL:
                    return 'N';
                case SUCCESSOR:
                    return 'S';
                default:
                    return 'R';
            }
        }
    }
}
