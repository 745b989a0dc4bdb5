import java.util.ArrayList;
import java.util.HashMap;
import java.util.List;
import java.util.Map;

/**
 * Compares ProofLine with a second program that was made from the document alone, in another way:
 * trees whose letters have names of their own, nothing cut off before its SIZE is looked at.
 */
public final class ModelTest {
    private static final int ROUNDS = 16000;
    // What an object answers behind its 512th call is free; a line takes at most 40 calls beside its output's.
    private static final int CALLS = 512 - 40;

    // ---- the second program

    /** kind: one of @ \ ! (two parts), a letter's own name in v, or an atom's sign. */
    private record Term(char kind, int letter, Term left, Term right, int place) {
    }

    private static final class Wrong extends RuntimeException {
        private static final long serialVersionUID = 1L;
        final int code;
        final int place;

        Wrong(int code, int place) {
            this.code = code;
            this.place = place;
        }
    }

    private record Normal(Term term, int steps) {
    }

    private static final class Model {
        final StringBuilder line = new StringBuilder();
        final Map<Character, Term> terms = new HashMap<>();
        final Map<Character, Term> types = new HashMap<>();
        String output = "";
        int size = 0;
        int place = -1;
        int fresh = 0;
        int at;
        final List<int[]> scope = new ArrayList<>();

        static Term atom(char kind) {
            return new Term(kind, 0, null, null, 0);
        }

        static Term apply(Term f, Term a) {
            return new Term('@', 0, f, a, f.place);
        }

        Term arrow(Term a, Term b) {
            return new Term('!', ++fresh, a, b, a.place);
        }

        static Term placed(Term t, int place) {
            return new Term(t.kind, t.letter, t.left, t.right, place);
        }

        // -- reading, one method for each word of the grammar

        int peek() {
            while (at < line.length() && line.charAt(at) == ' ') {
                at++;
            }
            return at < line.length() ? line.charAt(at) : -1;
        }

        void want(char sign) {
            if (peek() != sign) {
                throw new Wrong(-2, at);
            }
            at++;
        }

        Term readLine() {
            at = 0;
            scope.clear();
            Term t = readTerm();
            if (peek() != -1) {
                throw new Wrong(-2, at);
            }
            return t;
        }

        Term readTerm() {
            int sign = peek();
            int start = at;
            if (sign == '\\' || sign == '!') {
                at++;
                int letter = peek();
                if (letter < 'a' || letter > 'z') {
                    throw new Wrong(-2, at);
                }
                at++;
                want(':');
                Term a = readTerm();
                want('.');
                int own = ++fresh;
                scope.add(new int[] {letter, own});
                Term b = readTerm();
                scope.remove(scope.size() - 1);
                return new Term((char) sign, own, a, b, start);
            }
            Term row = readAtom();
            while (peek() != -1 && ")>.".indexOf(peek()) < 0) {
                row = apply(row, readAtom());
            }
            if (peek() == '>') {
                at++;
                return arrow(row, readTerm());
            }
            return row;
        }

        Term readAtom() {
            int sign = peek();
            int start = at;
            if (sign == '(') {
                at++;
                Term t = readTerm();
                want(')');
                return placed(t, start);
            }
            if (sign == -1) {
                throw new Wrong(-2, at);
            }
            at++;
            if (sign >= 'a' && sign <= 'z') {
                for (int i = scope.size() - 1; i >= 0; i--) {
                    if (scope.get(i)[0] == sign) {
                        return new Term('v', scope.get(i)[1], null, null, start);
                    }
                }
                throw new Wrong(-3, start);
            }
            if (sign >= 'A' && sign <= 'H') {
                if (!terms.containsKey((char) sign)) {
                    throw new Wrong(-3, start);
                }
                return placed(atom((char) sign), start);
            }
            if (Character.isDigit(sign)) {
                int n = sign - '0';
                if (at < line.length() && line.charAt(at) >= '0' && line.charAt(at) <= '9') {
                    n = 10 * n + line.charAt(at) - '0';
                    if (n > 20) {
                        throw new Wrong(-2, at);
                    }
                    at++;
                }
                Term t = atom('0');
                for (int i = 0; i < n; i++) {
                    t = apply(atom('S'), t);
                }
                return placed(t, start);
            }
            if ("*NSR".indexOf(sign) < 0) {
                throw new Wrong(-2, start);
            }
            return placed(atom((char) sign), start);
        }

        // -- terms

        static int size(Term t) {
            return t.left == null ? 1 : 1 + size(t.left) + size(t.right);
        }

        static boolean binds(Term t) {
            return t.kind == '\\' || t.kind == '!';
        }

        /** Every binder that is copied gets a letter of its own, so nothing is ever caught. */
        Term put(Term t, int letter, Term given) {
            if (t.kind == 'v') {
                return t.letter == letter ? given : t;
            }
            if (t.left == null) {
                return t;
            }
            if (!binds(t)) {
                return new Term(t.kind, 0, put(t.left, letter, given), put(t.right, letter, given), t.place);
            }
            int own = ++fresh;
            Term body = put(t.right, t.letter, new Term('v', own, null, null, 0));
            return new Term(t.kind, own, put(t.left, letter, given), put(body, letter, given), t.place);
        }

        static boolean alike(Term a, Term b, Map<Integer, Integer> pairs) {
            if (a.kind != b.kind) {
                return false;
            }
            if (a.kind == 'v') {
                return pairs.containsKey(a.letter) ? pairs.get(a.letter) == b.letter
                    : !pairs.containsValue(b.letter) && a.letter == b.letter;
            }
            if (a.left == null) {
                return true;
            }
            if (!alike(a.left, b.left, pairs)) {
                return false;
            }
            if (!binds(a)) {
                return alike(a.right, b.right, pairs);
            }
            Map<Integer, Integer> inner = new HashMap<>(pairs);
            inner.values().remove(b.letter);
            inner.put(a.letter, b.letter);
            return alike(a.right, b.right, inner);
        }

        static boolean isApply(Term t) {
            return t.kind == '@';
        }

        /** What the whole term comes to by a STEP of its own, or null. */
        Term ownStep(Term t) {
            if (t.kind >= 'A' && t.kind <= 'H') {
                return terms.get(t.kind);
            }
            if (!isApply(t)) {
                return null;
            }
            if (t.left.kind == '\\') {
                return put(t.left.right, t.left.letter, t.right);
            }
            Term f = t.left;
            if (isApply(f) && isApply(f.left) && isApply(f.left.left) && f.left.left.left.kind == 'R') {
                if (t.right.kind == '0') {
                    return f.left.right;
                }
                if (isApply(t.right) && t.right.left.kind == 'S') {
                    Term n = t.right.right;
                    return apply(apply(f.right, n), apply(f, n));
                }
            }
            return null;
        }

        Term step(Term t) {
            Term own = ownStep(t);
            if (own != null || t.left == null) {
                return own;
            }
            Term left = step(t.left);
            if (left != null) {
                return new Term(t.kind, t.letter, left, t.right, t.place);
            }
            Term right = step(t.right);
            return right == null ? null : new Term(t.kind, t.letter, t.left, right, t.place);
        }

        Normal normalOf(Term t, int place) {
            int steps = 0;
            while (true) {
                if (size(t) > 80) {
                    throw new Wrong(-7, place);
                }
                Term next = step(t);
                if (next == null) {
                    return new Normal(t, steps);
                }
                if (++steps > 60) {
                    throw new Wrong(-7, place);
                }
                t = next;
            }
        }

        // -- types

        Term recursionType() {
            int p = ++fresh;
            int n = ++fresh;
            int m = ++fresh;
            Term pv = new Term('v', p, null, null, 0);
            Term nv = new Term('v', n, null, null, 0);
            Term mv = new Term('v', m, null, null, 0);
            Term next = arrow(apply(pv, nv), apply(pv, apply(atom('S'), nv)));
            Term all = new Term('!', m, atom('N'), apply(pv, mv), 0);
            Term rest = arrow(apply(pv, atom('0')), arrow(new Term('!', n, atom('N'), next, 0), all));
            return new Term('!', p, arrow(atom('N'), atom('*')), rest, 0);
        }

        Term typeOf(Term t, Map<Integer, Term> known) {
            switch (t.kind) {
                case 'v':
                    return known.get(t.letter);
                case '*':
                    return atom('#');
                case 'N':
                    return atom('*');
                case '0':
                    return atom('N');
                case 'S':
                    return arrow(atom('N'), atom('N'));
                case 'R':
                    return recursionType();
                case '!':
                    sortOf(t.left, known);
                    known.put(t.letter, t.left);
                    return sortOf(t.right, known);
                case '\\':
                    sortOf(t.left, known);
                    known.put(t.letter, t.left);
                    Term b = typeOf(t.right, known);
                    if (b.kind == '#') {
                        throw new Wrong(-4, t.right.place);
                    }
                    return new Term('!', t.letter, t.left, b, 0);
                case '@':
                    Term f = normalOf(typeOf(t.left, known), t.left.place).term;
                    if (f.kind != '!') {
                        throw new Wrong(-5, t.left.place);
                    }
                    Term a = normalOf(typeOf(t.right, known), t.right.place).term;
                    if (!alike(a, normalOf(f.left, t.right.place).term, new HashMap<>())) {
                        throw new Wrong(-6, t.right.place);
                    }
                    return put(f.right, f.letter, t.right);
                default:
                    return types.get(t.kind);
            }
        }

        Term sortOf(Term t, Map<Integer, Term> known) {
            Term sort = normalOf(typeOf(t, known), t.place).term;
            if (sort.kind != '*' && sort.kind != '#') {
                throw new Wrong(-4, t.place);
            }
            return sort;
        }

        // -- writing

        static int number(Term t) {
            int n = 0;
            while (isApply(t) && t.left.kind == 'S') {
                n++;
                t = t.right;
            }
            return t.kind == '0' ? n : -1;
        }

        static boolean uses(Term t, int letter) {
            return t.kind == 'v' ? t.letter == letter : t.left != null && (uses(t.left, letter) || uses(t.right, letter));
        }

        static String write(Term t, int depth, Map<Integer, Character> letters) {
            if (number(t) >= 0) {
                return "" + number(t);
            }
            if (t.kind == 'v') {
                return "" + letters.get(t.letter);
            }
            if (t.left == null) {
                return "" + t.kind;
            }
            String left = write(t.left, depth, letters);
            if (isApply(t)) {
                String right = write(t.right, depth, letters);
                boolean one = t.right.left == null || number(t.right) >= 0;
                return (binds(t.left) ? "(" + left + ")" : left) + " " + (one ? right : "(" + right + ")");
            }
            char letter = (char) ('a' + depth % 26);
            Map<Integer, Character> inner = new HashMap<>(letters);
            inner.put(t.letter, letter);
            String right = write(t.right, depth + 1, inner);
            if (t.kind == '!' && !uses(t.right, t.letter)) {
                return (binds(t.left) ? "(" + left + ")" : left) + ">" + right;
            }
            return "" + t.kind + letter + ":" + left + "." + right;
        }

        // -- calls

        void show(Term t) {
            output = write(t, 0, new HashMap<>());
            size = size(t);
        }

        int define(char name) {
            place = -1;
            if (terms.containsKey(name)) {
                return -8;
            }
            try {
                Term t = readLine();
                Term type = typeOf(t, new HashMap<>());
                terms.put(name, t);
                types.put(name, type);
                return 0;
            } catch (Wrong w) {
                place = w.place;
                return w.code;
            }
        }

        int check() {
            place = -1;
            try {
                show(normalOf(typeOf(readLine(), new HashMap<>()), 0).term);
                return output.length();
            } catch (Wrong w) {
                place = w.place;
                return w.code;
            }
        }

        int normal() {
            place = -1;
            try {
                Term t = readLine();
                typeOf(t, new HashMap<>());
                Normal n = normalOf(t, 0);
                show(n.term);
                return n.steps;
            } catch (Wrong w) {
                place = w.place;
                return w.code;
            }
        }

        int same(char one, char other) {
            place = -1;
            try {
                Term a = normalOf(terms.get(one), 0).term;
                return alike(a, normalOf(terms.get(other), 0).term, new HashMap<>()) ? 1 : 0;
            } catch (Wrong w) {
                place = w.place;
                return w.code;
            }
        }
    }

    // ---- lines

    private static final String[] GOOD = {
        "\\x:N.R(\\y:N.N)x(\\y:N.S)x", "\\f:N>N.\\x:N.f(f x)", "\\x:*.\\y:x.y", "\\a:N.\\b:N.R(\\c:N.N)a(\\c:N.S)b",
        "\\a:N.R(\\c:N.N)0(\\c:N.\\d:N.c)a", "!p:*.(N>p>p)>p>p", "\\p:*.\\s:N>p>p.\\z:p.s 0(s 1 z)", "\\p:N>*.\\x:p 3.x",
        "\\p:N>*.\\x:p 3.\\f:!n:N.p n>p(S n).f 4(f 3 x)", "*", "N", "N>N", "S", "R", "R(\\n:N.N>N)(\\x:N.x)(\\n:N.\\f:N>N.\\x:N.S(f x))",
        "\\p:N>*.\\z:p 0.\\s:!n:N.p n>p(S n).R p z s 3", "\\p:N>*.\\n:N.p n>p n", "\\f:!x:*.x>x.f(N>N)S(f N 3)",
        "\\x:*.\\y:*.\\p:!z:*.(x>y>z)>z.p x(\\a:x.\\b:y.a)", "\\n:N.!x:*.(x>x)>x>x", "\\p:N>*.\\q:p 20.\\r:p 19.q",
        "\\x:!a:*.(a>a)>a>a.x N S 0", "\\a:*.\\f:a>a.\\x:a.f(f(f x))", "(\\a:*.\\f:a>a.\\x:a.f(f x))(N>N)(\\f:N>N.\\x:N.f(f x))S 0",
        "\\p:N>*.\\x:p(S 2).\\f:p 3>N.f x", "!x:*.!y:x>*.!z:x.y z", "R(\\x:N.N)7(\\x:N.S)3", "(\\x:N.\\y:N.x)3 4",
        "\\g:(N>N)>N>N.g(R(\\x:N.N)0(\\x:N.S))0", "\\g:((N>N>N)>N>N)>(N>N>N)>N>N.g(R(\\x:N.N)0)(\\x:N.S)0",
    };

    private long seed = 88172645463325252L;

    private int below(int bound) {
        seed ^= seed << 13;
        seed ^= seed >>> 7;
        seed ^= seed << 17;
        return (int) Math.floorMod(seed, (long) bound);
    }

    private String pick(String... from) {
        return from[below(from.length)];
    }

    private String atom(int depth, String letters) {
        int kind = below(10);
        if (kind < 4 && !letters.isEmpty()) {
            return "" + letters.charAt(below(letters.length()));
        }
        if (kind < 7 || depth <= 0) {
            return pick("N", "N", "0", "1", " 3", "S", "S", "*", "R", "A", "B", "C", "D", "20 ", "12 ", "E", "F");
        }
        return "(" + term(depth - 1, letters) + ")";
    }

    private String term(int depth, String letters) {
        int kind = depth <= 0 ? 9 : below(10);
        if (kind < 3) {
            String letter = pick("x", "y", "z", "p");
            return pick("\\", "\\", "!") + letter + ":" + term(depth - 2, letters) + "." + term(depth - 1, letters + letter);
        }
        StringBuilder row = new StringBuilder(atom(depth, letters));
        for (int i = below(4); i > 1; i--) {
            row.append(atom(depth - 1, letters));
        }
        return below(4) == 0 ? row.append('>').append(term(depth - 1, letters)).toString() : row.toString();
    }

    /** A term that has the type N, or N>N if so asked; letters of each are in scope. */
    private String number(int depth, String letters, String functions) {
        switch (depth <= 0 ? below(3) : below(9)) {
            case 0:
                return pick("0", "1", "2", "5");
            case 1:
            case 2:
                return letters.isEmpty() ? pick("3", "7") : "" + letters.charAt(below(letters.length()));
            case 3:
                return "(S " + number(depth - 1, letters, functions) + ")";
            case 4:
                return "(R(\\v:N.N)" + number(depth - 1, letters, functions) + "(\\i:N." + function(depth - 1, letters + "i", functions)
                    + ")" + number(depth - 1, letters, functions) + ")";
            case 5:
                return "((\\u:N." + number(depth - 1, letters + "u", functions) + ")" + number(depth - 1, letters, functions) + ")";
            case 6:
                return "((\\g:N>N." + number(depth - 1, letters, functions + "g") + ")" + function(depth - 1, letters, functions) + ")";
            default:
                return "(" + function(depth - 1, letters, functions) + " " + number(depth - 1, letters, functions) + ")";
        }
    }

    private String function(int depth, String letters, String functions) {
        switch (depth <= 0 ? below(2) : below(6)) {
            case 0:
                return "S";
            case 1:
                return functions.isEmpty() ? "S" : "" + functions.charAt(below(functions.length()));
            case 2:
                return "((\\t:*.\\w:t.w)(N>N)" + function(depth - 1, letters, functions) + ")";
            default:
                return "(\\k:N." + number(depth - 1, letters + "k", functions) + ")";
        }
    }

    private String mutated(String text) {
        StringBuilder line = new StringBuilder(text);
        for (int i = below(3); i > 0 && line.length() > 0; i--) {
            int at = below(line.length());
            switch (below(4)) {
                case 0:
                    line.deleteCharAt(at);
                    break;
                case 1:
                    line.insert(at, pick(" ", "(", ")", "N", "0", "2", "x", "A", "B", "S", ">", "*", "#", ":", "."));
                    break;
                case 2:
                    line.setCharAt(at, pick("N", "*", "0", "9", "x", "y", "A", "C", "S", ">", " ", "!", "\\", "(").charAt(0));
                    break;
                default:
                    line.insert(at, pick("(A 1)", "(B S)", " 20", "(S 3)", "(C N)", "(A(A 2))"));
            }
        }
        return line.toString();
    }

    private String newLine() {
        String line;
        switch (below(8)) {
            case 0:
                line = pick(GOOD);
                break;
            case 1:
                line = mutated(pick(GOOD));
                break;
            case 2:
            case 3:
                line = term(1 + below(6), "");
                break;
            case 4:
                line = mutated(number(2 + below(4), "", "ABCD".substring(0, below(5))));
                break;
            case 5:
                line = number(2 + below(5), "", "");
                break;
            case 6:
                line = pick("A", "B", "C", "D") + " " + pick(number(2, "", ""), function(2, "", ""), "N", "C", "(\\x:N.*>x)", "(\\x:N.N)") + pick("", " 3", " S 4", " N");
                break;
            default:
                line = "\\p:N>*.\\x:p" + number(3, "", "") + ".\\f:" + pick("!n:N.p n>p(S n).f", "p") + pick("3", number(3, "", "")) + pick(".x", " x", ">N.f x");
        }
        return line.length() > 100 ? line.substring(0, 100) : line;
    }

    // ---- comparing

    private int wrong = 0;
    private int calls = 0;
    private String compared = "";
    private final int[] seen = new int[12];
    private final StringBuilder story = new StringBuilder();

    private void due(String what, Object got, Object want) {
        if (!got.equals(want) && wrong++ < 20) {
            System.out.println(story + what + ": got " + got + ", due is " + want);
        }
    }

    private void typeAll(ProofLine x, String text) {
        for (int i = 0; i < text.length(); i += 20) {
            calls++;
            int[] five = new int[5];
            for (int k = i; k < text.length() && k < i + 20; k++) {
                five[(k - i) / 4] |= text.charAt(k) << 24 - 8 * (k % 4);
            }
            x.type(five[0], five[1], five[2], five[3], five[4]);
        }
    }

    private void compareState(ProofLine x, Model m) {
        due("place", x.place(), m.place);
        due("names", x.count(0), m.terms.size());
        due("characters", x.count(1), m.output.length());
        due("size", x.count(2), m.size);
        int some = below(m.output.length() + 1);
        due("character " + some, x.output(some), some < m.output.length() ? m.output.charAt(some) : ' ');
        calls += 6;
        compareOutput(x, m);
    }

    /** All of it only where it is another one: an output costs many calls. */
    private void compareOutput(ProofLine x, Model m) {
        if (compared.equals(m.output) || calls + m.output.length() > CALLS) {
            return;
        }
        StringBuilder out = new StringBuilder();
        for (int k = 0; k < m.output.length(); k++) {
            out.append(x.output(k));
        }
        due("output", out.toString(), m.output);
        compared = m.output;
        calls += m.output.length();
    }

    private void tally(int answer) {
        seen[answer < 0 ? -answer : 0]++;
    }

    private void call(ProofLine x, Model m) {
        String text = newLine();
        due("erase", x.erase(), m.line.length());
        typeAll(x, text);
        m.line.setLength(0);
        m.line.append(text);
        story.append("[").append(text).append("] ");
        int got = x.check();
        due("check", got, m.check());
        tally(got);
        compareState(x, m);
        got = x.normal();
        due("normal", got, m.normal());
        tally(got);
        compareState(x, m);
        if (below(2) == 0) {
            int name = below(8);
            story.append("-> ").append((char) ('A' + name)).append(' ');
            got = x.define(name);
            due("define", got, m.define((char) ('A' + name)));
            tally(got);
            compareState(x, m);
        }
        compareSame(x, m);
        calls += 4;
    }

    private void compareSame(ProofLine x, Model m) {
        int one = below(8);
        int other = below(8);
        boolean told = m.terms.containsKey((char) ('A' + one)) && m.terms.containsKey((char) ('A' + other));
        int place = x.place();
        try {
            int got = x.same(one, other);
            due("same told", told, true);
            if (told) {
                due("same " + one + " " + other, got, m.same((char) ('A' + one), (char) ('A' + other)));
                due("place of same", x.place(), m.place);
            }
        } catch (IllegalArgumentException e) {
            due("same not told", told, false);
            due("place after what throws", x.place(), place);
        }
    }

    private int run() {
        for (int round = 0; round < ROUNDS; round++) {
            ProofLine x = new ProofLine();
            Model m = new Model();
            story.setLength(0);
            compared = "";
            calls = 0;
            while (calls < CALLS) {
                call(x, m);
            }
        }
        System.out.println("answers seen: " + java.util.Arrays.toString(seen));
        return wrong;
    }

    public static void main(String[] args) {
        int wrong = new ModelTest().run();
        if (wrong > 0) {
            System.out.println(wrong + " answers differ from the model's");
            System.exit(1);
        }
        System.out.println("all answers are the model's");
    }
}
