/**
 * One ProofLine and what the tests ask of it. Each answer that is not due is printed and counted.
 * What an object answers behind its 512th call is free: so long tests take a new sheet in between.
 */
class Sheet {
    private static int wrong = 0;

    final ProofLine it = new ProofLine();

    static void due(String what, Object got, Object want) {
        if (!got.equals(want)) {
            wrong++;
            System.out.println(what + ": got " + got + ", due is " + want);
        }
    }

    static void end(String whenAllHold) {
        if (wrong > 0) {
            System.out.println(wrong + " answers are wrong");
            System.exit(1);
        }
        System.out.println(whenAllHold);
    }

    static String repeat(String text, int times) {
        StringBuilder all = new StringBuilder();
        for (int i = 0; i < times; i++) {
            all.append(text);
        }
        return all.toString();
    }

    private static int four(String text, int from) {
        int number = 0;
        for (int i = from; i < from + 4; i++) {
            number = number << 8 | (i < text.length() ? text.charAt(i) : 0);
        }
        return number;
    }

    // ---- what throws

    /** Whether type throws what the document says; only the document's exception is caught. */
    static boolean refusesType(ProofLine x, int a, int b, int c, int d, int e) {
        try {
            x.type(a, b, c, d, e);
            return false;
        } catch (IllegalStateException refused) {
            return true;
        }
    }

    static boolean refusesType(ProofLine x, int a) {
        return refusesType(x, a, 0, 0, 0, 0);
    }

    static boolean refusesDefine(ProofLine x, int name) {
        try {
            x.define(name);
            return false;
        } catch (IllegalArgumentException refused) {
            return true;
        }
    }

    static boolean refusesSame(ProofLine x, int one, int other) {
        try {
            x.same(one, other);
            return false;
        } catch (IllegalArgumentException refused) {
            return true;
        }
    }

    // ---- one line at a time

    int add(String text) {
        int answer = it.type(0, 0, 0, 0, 0);
        for (int i = 0; i < text.length(); i += 20) {
            answer = it.type(four(text, i), four(text, i + 4), four(text, i + 8), four(text, i + 12), four(text, i + 16));
        }
        return answer;
    }

    Sheet line(String text) {
        it.erase();
        due("length of " + text, add(text), text.length());
        return this;
    }

    String out() {
        StringBuilder text = new StringBuilder();
        int length = it.count(1);
        for (int k = 0; k < length; k++) {
            text.append(it.output(k));
        }
        return text.toString();
    }

    /** All that can be seen without a call that changes something, but for place. */
    String state() {
        return "line of " + it.type(0, 0, 0, 0, 0) + ", names " + it.count(0) + ", output " + out() + ", size " + it.count(2);
    }

    Sheet tell(String name, String text) {
        line(text);
        due("define " + name + " as " + text, it.define(name.charAt(0) - 'A'), 0);
        due("place after define", it.place(), -1);
        return this;
    }

    Sheet typed(String text, String want) {
        line(text);
        int answer = it.check();
        due("type of " + text, answer < 0 ? "fault " + answer + " at " + it.place() : out(), want);
        due("length answered for " + text, answer, want.length());
        due("place after check of " + text, it.place(), -1);
        return this;
    }

    Sheet comes(String text, int steps, String want) {
        line(text);
        int answer = it.normal();
        due("steps of " + text, answer, steps);
        due("normal form of " + text, answer < 0 ? "fault " + answer + " at " + it.place() : out(), want);
        due("place after normal of " + text, it.place(), -1);
        return this;
    }

    /** The same fault from check, normal and define, none of which may change anything but place. */
    Sheet faulty(String text, int fault, int place) {
        line(text);
        String before = state();
        due("check of " + text, it.check(), fault);
        due("place for " + text, it.place(), place);
        due("normal of " + text, it.normal(), fault);
        due("place for " + text, it.place(), place);
        due("define of " + text, it.define(7), fault);
        due("place for " + text, it.place(), place);
        due("state after " + text, state(), before);
        return this;
    }

    /** A fault at the place where the rest begins. */
    Sheet faultyBehind(String before, String rest, int fault) {
        return faulty(before + rest, fault, before.length());
    }

    /** The TERM has a type that can be told, but its own NORMAL FORM, or that of its type, is too dear. */
    Sheet faultyNormal(String text) {
        line(text);
        String before = state();
        due("normal of " + text, it.normal(), ProofLine.FUEL);
        due("place for " + text, it.place(), 0);
        due("state after " + text, state(), before);
        return this;
    }

    Sheet faultyCheck(String text) {
        line(text);
        String before = state();
        due("check of " + text, it.check(), ProofLine.FUEL);
        due("place for " + text, it.place(), 0);
        due("state after " + text, state(), before);
        return this;
    }
}
