import java.lang.reflect.Constructor;
import java.lang.reflect.Field;
import java.lang.reflect.Method;
import java.lang.reflect.Modifier;
import java.util.Set;
import java.util.TreeSet;

/** Goes through the promises of the document: prints each answer that is not due, and then ends with 1. */
public final class PromisesTest extends Sheet {
    public static void main(String[] args) throws Exception {
        face();
        newObject();
        typeAndErase();
        typeRefusesTooMuch();
        readingSigns();
        readingNumbers();
        readingLetters();
        define();
        defineFaultsChangeNothing();
        typesOfAtoms();
        typesOfProductsAndFunctions();
        typesOfApplications();
        placesInBrackets();
        firstFault();
        checkKeepsRawTypes();
        fuelInTypes();
        normal();
        normalOrder();
        fuelEdges();
        sizeEdges();
        written();
        writtenLettersWrap();
        same();
        place();
        output();
        count();
        deepLines();
        exampleOfTheReadme();
        end("all promises hold");
    }

    // ---- the public face

    private static void face() throws Exception {
        due("final", Modifier.isFinal(ProofLine.class.getModifiers()), true);
        String[] names = {"NONE", "SIGN", "UNBOUND", "SORT", "KIND", "MISMATCH", "FUEL", "TAKEN"};
        for (int i = 0; i < names.length; i++) {
            due(names[i], ProofLine.class.getField(names[i]).getInt(null), -1 - i);
        }
        Set<String> seen = new TreeSet<>();
        for (Method m : ProofLine.class.getDeclaredMethods()) {
            if (!Modifier.isPrivate(m.getModifiers()) && !m.isSynthetic()) {
                seen.add(m.getName() + m.getParameterCount() + Modifier.isPublic(m.getModifiers()));
            }
        }
        due("methods", seen.toString(), "[check0true, count1true, define1true, erase0true, normal0true,"
            + " output1true, place0true, same2true, type5true]");
        int constants = 0;
        for (Field f : ProofLine.class.getDeclaredFields()) {
            if (!Modifier.isPrivate(f.getModifiers())) {
                constants++;
            }
        }
        due("constants", constants, 8);
        Constructor<?>[] constructors = ProofLine.class.getDeclaredConstructors();
        due("constructors", constructors.length, 1);
    }

    // ---- promise 1

    private static void newObject() {
        ProofLine x = new ProofLine();
        due("erase of a new one", x.erase(), 0);
        due("names of a new one", x.count(0), 0);
        due("output of a new one", x.count(1), 0);
        due("size of a new one", x.count(2), 0);
        due("place of a new one", x.place(), -1);
        due("character of a new one", x.output(0), ' ');
        due("check of a new one", x.check(), ProofLine.SIGN);
        due("place of its end", x.place(), 0);
        ProofLine y = new ProofLine();
        y.type('N', 0, 0, 0, 0);
        y.define(0);
        due("objects apart: line", x.erase(), 0);
        due("objects apart: names", x.count(0), 0);
    }

    // ---- promises 2 and 3

    private static void typeAndErase() {
        ProofLine x = new ProofLine();
        due("five numbers", x.type(0x5C783A4E, 0x2E532853, 0x28532028, 0x53207829, 0x29292020), 20);
        due("check", x.check(), 3);
        due("erase", x.erase(), 20);
        due("erase again", x.erase(), 0);
        due("zero bytes are none", x.type(0x53000000, 0x00200000, 0x00003500, 0, 0x00000020), 4);
        due("check S 5", x.check(), 1);
        due("nothing more", x.type(0, 0, 0, 0, 0), 4);
        due("line stays", x.erase(), 4);
        due("high bytes", x.type(0xFF80FFFF, -1, -1, -1, -1), 20);
        due("high byte is no sign", x.check(), ProofLine.SIGN);
        due("at its place", x.place(), 0);
        x.erase();
        due("order of bytes", x.type(0x28295328, 0, 0, 0, 0), 4);
        due("order of bytes: check", x.check(), ProofLine.SIGN);
        due("order of bytes: place", x.place(), 1);
        x.erase();
        x.type('N', 0, 0, 0, 0);
        due("second number behind the first", x.type(0, '>', 0, 'N', 0), 3);
        due("N>N", x.check(), 1);
        x.erase();
        due("place stays after erase", x.place(), -1);
    }

    private static void typeRefusesTooMuch() {
        ProofLine x = new ProofLine();
        for (int i = 1; i <= 4; i++) {
            due("twenty more", x.type(0x4E3E4E3E, 0x4E3E4E3E, 0x4E3E4E3E, 0x4E3E4E3E, 0x4E3E4E3E), 20 * i);
        }
        due("to 97", x.type(0x4E3E4E3E, 0x4E3E4E3E, 0x4E3E4E3E, 0x4E3E4E3E, 0x4E000000), 97);
        due("four more", refusesType(x, 0x3E4E3E4E), true);
        due("changes nothing", x.type(0, 0, 0, 0, 0), 97);
        due("three more", x.type(0x3E4E0020, 0, 0, 0, 0), 100);
        due("one more", refusesType(x, 0x20), true);
        due("one more, at another byte", refusesType(x, 0x20000000), true);
        due("one more, a high one", refusesType(x, 0x80), true);
        due("none more", refusesType(x, 0), false);
        due("a hundred read", x.check(), 1);
        due("erase", x.erase(), 100);
    }

    // ---- terms: how THE LINE is read

    private static void readingSigns() {
        Sheet t = new Sheet();
        t.faulty("", -2, 0).faulty("   ", -2, 3).faulty("#", -2, 0).faulty("N#", -2, 1);
        t.faulty("I", -2, 0).faulty("M", -2, 0).faulty("Q", -2, 0).faulty("Z", -2, 0).faulty("N\t", -2, 1);
        t.faulty("()", -2, 1).faulty("(N", -2, 2).faulty("N)", -2, 1).faulty("(N))", -2, 3).faulty(")", -2, 0);
        t.faulty(">N", -2, 0).faulty("N>", -2, 2).faulty("N>>N", -2, 2).faulty("N> ", -2, 3).faulty("(N>)", -2, 3);
        t.faulty("\\", -2, 1).faulty("\\x", -2, 2).faulty("\\x:", -2, 3).faulty("\\x:N", -2, 4).faulty("\\x:N.", -2, 5);
        t = new Sheet();
        t.faulty("!", -2, 1).faulty("!N:N.N", -2, 1).faulty("!x.N", -2, 2).faulty("!x:.N", -2, 3).faulty("!x:N:N", -2, 4);
        t.faulty("\\xy:N.N", -2, 2).faulty("\\1:N.N", -2, 1).faulty("N.N", -2, 1).faulty("(N.N)", -2, 2);
        t.faulty("S \\x:N.x", -2, 2).faulty("S!x:N.x", -2, 1).faulty("\\x:N)", -2, 4).faulty("\\x:(N.x", -2, 5);
        t.faulty("N:N", -2, 1).faulty("\\ x : N . )", -2, 10);
        t = new Sheet();
        t.typed("\\x:N.x", "N>N").typed("  \\ x : N . x  ", "N>N").typed("((N))>(((N)))", "*");
        t.typed("\\x:!y:N.N.x 3", "(N>N)>N").typed("\\x:N.\\y:N>N.y x", "N>(N>N)>N");
        t.typed("N>!x:N.N", "*").typed("!x:*.x>x", "*").typed("\\x:(N).(S)(x)", "N>N").typed("S(S(S 0))", "N");
        t.faulty("N>\\x:N.x", -4, 2);
    }

    private static void readingNumbers() {
        Sheet t = new Sheet();
        t.comes("0", 0, "0").comes("9", 0, "9").comes("10", 0, "10").comes("20", 0, "20").comes("05", 0, "5").comes("00", 0, "0");
        t.faulty("21", -2, 1).faulty("99", -2, 1).faulty("S 30", -2, 3).faulty(" 21", -2, 2).faulty("210", -2, 1);
        t.faulty("2 1", -5, 0).faulty("201", -5, 0).faulty("0021", -2, 3).faulty("0020", -5, 0).faulty("100", -5, 0);
        t = new Sheet();
        t.comes("\\f:N>N>N.f 123", 0, "\\a:N>N>N.a 12 3").comes("\\f:N>N>N.f 1 2", 0, "\\a:N>N>N.a 1 2");
        t.comes("\\f:N>N>N.f 1217", 0, "\\a:N>N>N.a 12 17").faulty("\\f:N>N>N.f 1234", -2, 14);
        t.comes("\\f:N>N>N.f12 3", 0, "\\a:N>N>N.a 12 3").comes("\\f:N>N>N.f(1)2", 0, "\\a:N>N>N.a 1 2");
    }

    private static void readingLetters() {
        Sheet t = new Sheet();
        t.faulty("x", -3, 0).faulty("\\x:N.y", -3, 5).faulty("\\x:x.x", -3, 3).faulty("(\\x:N.x)x", -3, 8);
        t.faulty("\\x:(!x:N.N)>x.x", -3, 12).faulty("(!x:*.x)>x", -3, 9).faulty("A", -3, 0).faulty("H", -3, 0);
        t.faulty("x)", -3, 0).faulty(")x", -2, 0).faulty("N x #", -3, 2).faulty("N # x", -2, 2);
        t.comes("\\x:N.\\x:*.x", 0, "\\a:N.\\b:*.b").comes("\\x:*.\\x:x.x", 0, "\\a:*.\\b:a.b");
        t.comes("\\x:N.\\f:(\\x:*.x)(N>N).f x", 1, "\\a:N.\\b:N>N.b a");
        t.typed("\\a:*.\\x:a.\\b:a>*.b x", "!a:*.a>(a>*)>*");
        t.tell("A", "N");
        t.faulty("\\x:B.A", -3, 3).typed("A", "*");
    }

    // ---- promise 4

    private static void define() {
        Sheet t = new Sheet();
        t.line("7");
        for (int name : new int[] {8, -1, 100, Integer.MIN_VALUE, Integer.MAX_VALUE}) {
            due("define " + name, refusesDefine(t.it, name), true);
        }
        for (int name = 0; name < 8; name++) {
            due("names before", t.it.count(0), name);
            due("define " + name, t.it.define(name), 0);
        }
        due("line stays", t.it.erase(), 1);
        due("taken", t.it.define(3), ProofLine.TAKEN);
        due("place of taken", t.it.place(), -1);
        t.line("x");
        due("taken before what is wrong", t.it.define(3), ProofLine.TAKEN);
        due("place of taken", t.it.place(), -1);
        t.comes("H", 1, "7").comes("S(S H)", 1, "9");
        Sheet u = new Sheet();
        u.faulty("H", -3, 0);
        u.line("B");
        due("not told of itself", u.it.define(1), ProofLine.UNBOUND);
        u.line("5");
        due("and still free", u.it.define(1), 0);
        u.comes("B", 1, "5");
    }

    private static void defineFaultsChangeNothing() {
        Sheet t = new Sheet();
        t.typed("S", "N>N");
        t.line("0 0");
        due("define", t.it.define(0), ProofLine.KIND);
        due("place", t.it.place(), 0);
        due("names", t.it.count(0), 0);
        due("output", t.out(), "N>N");
        due("refused", refusesDefine(t.it, 9), true);
        due("place after what throws", t.it.place(), 0);
        due("refused", refusesSame(t.it, 0, 0), true);
        due("place after what throws", t.it.place(), 0);
        due("line", t.it.erase(), 3);
        due("place after erase", t.it.place(), 0);
    }

    // ---- promise 5, and what is wrong with a type

    private static void typesOfAtoms() {
        Sheet t = new Sheet();
        t.typed("*", "#").typed("N", "*").typed("0", "N").typed("13", "N").typed("S", "N>N");
        t.typed("R", "!a:N>*.a 0>(!c:N.a c>a (S c))>!d:N.a d");
        t.tell("A", "*").typed("A", "#").tell("B", "\\x:N.S").typed("B", "N>N>N");
    }

    private static void typesOfProductsAndFunctions() {
        Sheet t = new Sheet();
        t.typed("N>N", "*").typed("N>*", "#").typed("!x:*.x", "*").typed("*>*", "#").typed("!x:*.x>N", "*");
        t.faulty("0>N", -4, 0).faulty("N>0", -4, 2).faulty("!x:S.N", -4, 3).faulty("!x:N.S x", -4, 5).faulty("!x:N.x", -4, 5);
        t.faulty("\\x:0.x", -4, 3).faulty("\\x:N.*", -4, 5).faulty("\\x:N.N>*", -4, 5).faulty("\\x:*.\\y:x.*", -4, 10);
        t.faulty("\\x:N.\\y:x.y", -4, 8).faulty("S 0>0 0", -4, 0).faulty("N>S 0>N", -4, 2);
        t.typed("\\x:*.x", "*>*").typed("\\x:*.\\y:x.y", "!a:*.a>a").typed("\\x:*.\\y:x>x.y", "!a:*.(a>a)>a>a");
        t.tell("A", "*").typed("\\x:A.x", "*>*").typed("!x:A.x", "*").typed("\\x:A.\\y:x.y", "!a:*.a>a");
        t.faulty("\\x:N.A", -4, 5).typed("\\x:A.N", "*>*").typed("\\x:A.x>A>*".replace(">A>*", ""), "*>*");
        t.faulty("\\x:A.x>A", -4, 5);
    }

    private static void typesOfApplications() {
        Sheet t = new Sheet();
        t.typed("S 0", "N").faulty("0 S", -5, 0).faulty("S N", -6, 2).faulty("S S", -6, 2).faulty("N 0", -5, 0).faulty("* *", -5, 0);
        t.faulty("S 0 0", -5, 0).faulty("S(0 0)", -5, 2).faulty("(\\x:*.x)*", -6, 8).faulty("(!x:N.N)0", -5, 0);
        t.typed("(\\x:*.\\y:x.y)(N>N)S 3", "N").faulty("(\\x:*.\\y:x.y)(N>N)3", -6, 18);
        t.typed("R(\\x:N.N)0", "(N>N>N)>N>N").typed("R(\\x:N.N>N)", "(N>N)>(N>(N>N)>N>N)>N>N>N");
        t.typed("\\p:N>*.\\x:p 3.\\f:p(S 2)>N.f x", "!a:N>*.a 3>(a 3>N)>N");
        t.faulty("\\p:N>*.\\x:p 3.\\f:p(S 3)>N.f x", -6, 28);
        t = new Sheet();
        t.typed("\\f:!x:*.x>x.f(N>N)S(f N 3)", "(!a:*.a>a)>N");
        t.typed("\\p:N>*.\\f:!n:N.p n.\\m:N.f(S m)", "!a:N>*.(!b:N.a b)>!c:N.a (S c)");
        t.typed("\\f:!x:N.N.\\g:(N>N)>N.g f", "(N>N)>((N>N)>N)>N");
        t.typed("\\p:(!x:*.x>x)>*.\\f:p(\\y:*.\\z:y.z)>N.\\x:p(\\a:*.\\b:a.b).f x",
            "!a:(!a:*.a>a)>*.(a (\\b:*.\\c:b.c)>N)>a (\\c:*.\\d:c.d)>N");
    }

    private static void placesInBrackets() {
        Sheet t = new Sheet();
        t.faulty("(0) 0", -5, 0).faulty("((0)) 0", -5, 0).faulty("( (0) 0)", -5, 2).faulty("((0 0))", -5, 2);
        t.faulty("S (N)", -6, 2).faulty("S ((N))", -6, 2).faulty("S ( 0 0 )", -5, 4).faulty("S((0)0)", -5, 2);
        t.faulty("S 0 0 0", -5, 0).faulty("(S 0) 0", -5, 0).faulty("((S 0) 0)", -5, 1).faulty("  S  N", -6, 5);
        t.faulty("\\x:(0).x", -4, 3).faulty("\\x:N.(*)", -4, 5).faulty("!x:N.((0))", -4, 5).faulty("(S 0)>N", -4, 0);
        t.faulty("(\\x:N.\\y:N.y)0(S)", -6, 14).faulty("(\\x:N.\\y:N.y 1)0", -5, 11);
    }

    private static void firstFault() {
        Sheet t = new Sheet();
        t.faulty("0(0 0)", -5, 0).faulty("S(0 0)(S N)", -5, 2).faulty("S 0 N", -5, 0).faulty("S N N", -6, 2);
        t.faulty("(0>N)>0", -4, 1).faulty("\\x:0.*", -4, 3).faulty("\\x:S N.*", -6, 5).faulty("!x:N.S S", -6, 7);
        t.faulty("N>0>0", -4, 2).faulty("S(\\x:N.*)", -4, 7).faulty("N>0 0>0", -5, 2);
    }

    private static void checkKeepsRawTypes() {
        Sheet t = new Sheet();
        t.tell("A", "\\p:N>*.\\n:N.p n>p n").tell("B", "\\p:N>*.\\x:A p 3.x");
        t.typed("B", "!a:N>*.(a 3>a 3)>a 3>a 3").typed("\\p:N>*.B p(\\x:p(S 2).x)", "!a:N>*.a 3>a 3");
        t.faulty("\\p:N>*.B p(\\x:p 2.x)", -6, 10);
    }

    private static void fuelInTypes() {
        Sheet t = new Sheet();
        t.tell("A", "\\x:N.R(\\y:N.N)x(\\y:N.S)x").tell("B", "\\x:N.A(A(A(A x)))").tell("C", "\\p:N>*.p(B 1)>p(B 1)");
        t.line("\\p:N>*.\\x:p(B 9).x");
        due("type that is not brought to its normal form", t.it.define(3), 0);
        due("check of it", t.it.check(), ProofLine.FUEL);
        due("place of it", t.it.place(), 0);
        t.faulty("\\p:N>*.\\f:p 0>N.\\x:p(B 9).f x", -7, 28).faulty("\\p:N>*.\\f:p(B 9)>N.\\x:p 0.f x", -7, 26);
        t.faulty("\\p:N>*.\\f:N>p(B 9).f 0 1", -7, 19).faulty("D S", -7, 0).faulty("(D)(0 0)", -7, 0);
        t.faulty("\\p:N>*.\\x:p(B 9).\\f:N>N.f(x)", -7, 25).faulty("\\p:N>*.\\x:p(B 9).x>N", -7, 17).faulty("\\p:N>*.\\x:p(B 9).N>x", -7, 19);
        // An argument that is too big does no harm where the type does not tell of it.
        t.typed("(\\x:N.\\y:N.x)(B 9)20", "N").typed("\\f:N>N>N>N.f 20 20 20", "(N>N>N>N)>N");
        t.line("\\f:N>N>N>N.f 20 20 20");
        due("define of what is too big", t.it.define(4), 0);
        t.typed("E", "(N>N>N>N)>N");
        due("same of what is too big", t.it.same(4, 4), ProofLine.FUEL);
        due("its place", t.it.place(), 0);
        t.line("E");
        due("normal of what is too big", t.it.normal(), ProofLine.FUEL);
        t.line("\\p:N>N>*.\\x:p 20 20.x");
        due("define with a type that is too big", t.it.define(5), 0);
        t.line("F");
        due("check of a type that is too big", t.it.check(), ProofLine.FUEL);
        due("its place", t.it.place(), 0);
        t.faulty("S (F S)", -7, 3);
    }

    // ---- promise 6

    private static void normal() {
        Sheet t = new Sheet();
        t.comes("(\\x:N.S(S x))3", 1, "5").comes("\\x:N.(\\y:N.y)x", 1, "\\a:N.a").comes("R", 0, "R").comes("R(\\x:N.N)", 0, "R (\\a:N.N)");
        t.comes("R(\\x:N.N)7(\\x:N.S)0", 1, "7").comes("R(\\x:N.N)7(\\x:N.S)1", 3, "8").comes("R(\\x:N.N>N)S(\\x:N.\\f:N>N.f)0 4", 1, "5");
        t.comes("\\n:N.R(\\x:N.N)7(\\x:N.S)(S n)", 2, "\\a:N.S (R (\\b:N.N) 7 (\\b:N.S) a)");
        t.comes("\\n:N.R(\\x:N.N)7(\\x:N.S)n", 0, "\\a:N.R (\\b:N.N) 7 (\\b:N.S) a");
        t.comes("(\\f:N>N.\\x:N.f(f x))((\\f:N>N.\\x:N.f(f x))S)", 5, "\\a:N.S (S (S (S a)))");
        t.comes("\\x:N.(\\y:N.\\x:N.y)x", 1, "\\a:N.\\b:N.a").comes("\\y:N.(\\x:N.\\y:N.\\z:N.x)y 3", 2, "\\a:N.\\b:N.a");
        t.tell("A", "\\x:N.x").tell("B", "A 3").comes("B", 3, "3").comes("A B", 5, "3").comes("\\x:N.A", 1, "\\a:N.\\b:N.b");
    }

    private static void normalOrder() {
        Sheet t = new Sheet();
        // What is not used is never looked at: the FIRST STEP is that of the whole before its parts.
        t.comes("(\\x:N.0)((\\x:N.x)((\\x:N.x)1))", 1, "0").comes("(\\x:N.\\f:N>N>N.f x x)((\\x:N.x)1)", 3, "\\a:N>N>N.a 1 1");
        t.tell("A", "\\x:N.\\y:N.x").comes("A 1(A 2 3)", 3, "1");
        t.comes("R(\\x:N.N)0(\\x:N.\\y:N.x)(S((\\x:N.x)4))", 4, "4");
        t.comes("R(\\x:N.N)0(\\x:N.\\y:N.x)((\\x:N.S x)4)", 4, "4");
    }

    private static void fuelEdges() {
        Sheet t = new Sheet();
        t.tell("A", "\\x:N.x").tell("B", "\\x:N.A(A(A(A(A x))))").tell("C", "\\x:N.B(B x)").tell("D", "\\x:N.C(C x)");
        // A: 2 steps; B: 2 + 5 * 2 = 12; C: 2 + 2 * 12 = 26; D: 2 + 2 * 26 = 54
        t.comes("A 3", 2, "3").comes("B 3", 12, "3").comes("C 3", 26, "3").comes("D 3", 54, "3");
        t.comes("A(A(A(D 3)))", 60, "3");
        t.faultyNormal("A(A(A((\\x:N.x)(D 3))))");
        t.comes("A(A((\\x:N.x)(D 3)))", 59, "3");
        // same begins with the TERMS of the NAMES: theirs are the STEPS, not those of the NAMES.
        t.tell("E", "A(A(A(D 3)))").tell("F", "A(A(A((\\x:N.x)(D 3))))").tell("G", "3");
        due("sixty steps", t.it.same(4, 6), 1);
        due("and none", t.it.place(), -1);
        due("sixty-one steps", t.it.same(5, 6), ProofLine.FUEL);
        due("its place", t.it.place(), 0);
        due("sixty-one steps, second", t.it.same(6, 5), ProofLine.FUEL);
        t.faultyNormal("E");
    }

    private static void sizeEdges() {
        Sheet t = new Sheet();
        // Parts are none or two, so every SIZE is odd: 79 is the greatest that does, 81 the least that does not.
        t.comes("\\f:N>N>N.f 20 14", 0, "\\a:N>N>N.a 20 14");
        due("size 79", t.it.count(2), 79);
        t.faultyNormal("\\f:N>N>N.f 20 15").faultyNormal("\\f:N>N>N.f 20 20");
        t.comes("\\f:N>N>*.f 20 13>N", 0, "\\a:N>N>*.a 20 13>N").faultyNormal("\\f:N>N>*.f 20 14>N");
        t.comes("\\f:N>N>N.\\x:N.f 20 13", 0, "\\a:N>N>N.\\b:N.a 20 13");
        t.comes("\\f:N>N>N.f 20(S((\\x:N.x)11))", 1, "\\a:N>N>N.a 20 12");
        t.comes("\\x:N.\\g:N>N.\\f:N>N>N.f 20(S(g 9))", 0, "\\a:N.\\b:N>N.\\c:N>N>N.c 20 (S (b 9))");
        due("size 79", t.it.count(2), 79);
        t.faultyNormal("\\x:N.\\g:N>N.\\f:N>N>N.f 20(S(g 10))");
        t = new Sheet();
        // On the way: too big before it would be small again, and too big at its end.
        t.comes("(\\x:N.0)20", 1, "0").faultyNormal("(\\x:N.\\y:N.0)20 20").faultyNormal("\\f:N>N>N.(\\x:N.f x x)18");
        t.comes("\\f:N>N>N.(\\x:N.f x x)17", 1, "\\a:N>N>N.a 17 17");
        due("size 79", t.it.count(2), 79);
        t.typed("\\p:N>N>*.\\x:p 17 16.0", "!a:N>N>*.a 17 16>N");
    }

    // ---- WRITTEN

    private static void written() {
        Sheet t = new Sheet();
        t.comes("(N>N)>N", 0, "(N>N)>N").comes("N>(N>N)", 0, "N>N>N").comes("(!x:*.x)>N", 0, "(!a:*.a)>N");
        t.comes("!x:*.x>x", 0, "!a:*.a>a").comes("!x:N.N", 0, "N>N").comes("\\x:N.N", 0, "\\a:N.N").comes("N>!x:*.x", 0, "N>!b:*.b");
        t.comes("\\x:*.\\y:x>*.!z:x.y z", 0, "\\a:*.\\b:a>*.!c:a.b c").comes("\\x:N>N>N.x(x 1 2)3", 0, "\\a:N>N>N.a (a 1 2) 3");
        t.comes("\\x:(N>N)>N.x(\\y:N.y)", 0, "\\a:(N>N)>N.a (\\b:N.b)").comes("\\x:*>N.x(N>N)", 0, "\\a:*>N.a (N>N)");
        t.comes("\\x:*>N.x(!y:*.y)", 0, "\\a:*>N.a (!b:*.b)").comes("\\x:(N>N)>N.x S", 0, "\\a:(N>N)>N.a S");
        t = new Sheet();
        t.comes("\\x:*>N.x N", 0, "\\a:*>N.a N").comes("\\x:N.S(S x)", 0, "\\a:N.S (S a)").comes("\\f:N>N.f(S(S 1))", 0, "\\a:N>N.a 3");
        t.comes("\\f:N>N.f(S 20)", 0, "\\a:N>N.a 21").comes("S(S(S(S(S(S(S(S(S(S(S 20))))))))))", 0, "31");
        t.comes("R(\\x:N.N)0(\\x:N.S)", 0, "R (\\a:N.N) 0 (\\a:N.S)").comes("!f:!x:*.x.N", 0, "(!a:*.a)>N");
        t.comes("!f:*>*.(!x:*.f x)>f N", 0, "!a:*>*.(!b:*.a b)>a N").comes("!f:N>*.(f 0)>f 1", 0, "!a:N>*.a 0>a 1");
    }

    private static void writtenLettersWrap() {
        Sheet t = new Sheet();
        t.comes(repeat("N>", 24) + "!x:*.!y:x.N>x", 0, repeat("N>", 24) + "!y:*.y>N>y");
        t.comes(repeat("N>", 25) + "!x:*.!y:*.x>y", 0, repeat("N>", 25) + "!z:*.!a:*.z>a");
        t.comes(repeat("N>", 26) + "!x:*.!y:*.x>y", 0, repeat("N>", 26) + "!a:*.!b:*.a>b");
    }

    // ---- promise 7

    private static void same() {
        Sheet t = new Sheet();
        due("none told", refusesSame(t.it, 0, 0), true);
        t.tell("A", "\\x:N.\\y:N.x").tell("B", "\\y:N.\\x:N.y").tell("C", "\\x:N.\\y:N.y").tell("D", "A 4 5").tell("E", "S 3");
        due("letters", t.it.same(0, 1), 1);
        due("others", t.it.same(0, 2), 0);
        due("normal forms", t.it.same(3, 4), 1);
        due("itself", t.it.same(2, 2), 1);
        due("of other types", t.it.same(0, 4), 0);
        due("one not told", refusesSame(t.it, 0, 5), true);
        due("other not told", refusesSame(t.it, 5, 0), true);
        for (int bad : new int[] {-1, 8, Integer.MAX_VALUE, Integer.MIN_VALUE}) {
            due("no such name", refusesSame(t.it, bad, 0), true);
            due("no such name", refusesSame(t.it, 0, bad), true);
        }
        t.tell("F", "!x:N.N").tell("G", "N>N");
        due("unused letter", t.it.same(5, 6), 1);
        t.typed("S", "N>N");
        due("same", t.it.same(0, 1), 1);
        due("output stays", t.out(), "N>N");
        due("line stays", t.it.erase(), 1);
    }

    // ---- promise 8

    private static void place() {
        Sheet t = new Sheet();
        t.line("S N");
        due("fault", t.it.check(), ProofLine.MISMATCH);
        due("place", t.it.place(), 2);
        due("place again", t.it.place(), 2);
        t.it.erase();
        t.it.type(0x53203000, 0, 0, 0, 0);
        due("place stays while typing", t.it.place(), 2);
        due("no fault", t.it.check(), 1);
        due("no place", t.it.place(), -1);
        t.line("x");
        t.it.normal();
        due("place", t.it.place(), 0);
        t.line("3");
        due("define", t.it.define(0), 0);
        due("no place", t.it.place(), -1);
        t.line("S x");
        t.it.normal();
        due("place", t.it.place(), 2);
        due("same", t.it.same(0, 0), 1);
        due("no place", t.it.place(), -1);
        t.it.normal();
        due("taken", t.it.define(0), ProofLine.TAKEN);
        due("no place", t.it.place(), -1);
    }

    // ---- promise 9

    private static void output() {
        Sheet t = new Sheet();
        t.typed("R", "!a:N>*.a 0>(!c:N.a c>a (S c))>!d:N.a d").typed("S", "N>N");
        due("first", t.it.output(0), 'N');
        due("last", t.it.output(2), 'N');
        for (int k : new int[] {3, 4, 30, 479, 480, 100000, -1, Integer.MIN_VALUE, Integer.MAX_VALUE}) {
            due("character " + k, t.it.output(k), ' ');
        }
    }

    // ---- promise 10

    private static void count() {
        Sheet t = new Sheet();
        t.typed("S", "N>N");
        due("size of N>N", t.it.count(2), 3);
        due("characters of N>N", t.it.count(1), 3);
        t.typed("*", "#");
        due("size of #", t.it.count(2), 1);
        t.comes("S 12", 0, "13");
        due("size of 13", t.it.count(2), 27);
        due("characters of 13", t.it.count(1), 2);
        t.typed("R", "!a:N>*.a 0>(!c:N.a c>a (S c))>!d:N.a d");
        due("size of the type of R", t.it.count(2), 25);
        t.comes("\\x:N.S(S x)", 0, "\\a:N.S (S a)");
        due("size of a function", t.it.count(2), 7);
        for (int what : new int[] {3, -1, 100, Integer.MIN_VALUE, Integer.MAX_VALUE}) {
            due("count " + what, t.it.count(what), -1);
        }
    }

    private static void deepLines() {
        Sheet t = new Sheet();
        t.faulty(repeat("(", 100), -2, 100).comes(repeat("(", 49) + "15" + repeat(")", 49), 0, "15");
        t.faulty(repeat("\\a:", 33), -2, 99).faulty(repeat("N>", 50), -2, 100).faulty(repeat("S", 100), -6, 1);
        t.typed(repeat("N>", 49) + "N", "*").faulty(repeat("N>", 49) + "SS", -6, 99);
        t.comes(repeat("S(", 33) + "0" + repeat(")", 33), 0, "33").faulty("\\x:N." + repeat("x", 95), -5, 5);
        t.faultyNormal(repeat("S(", 32) + "20" + repeat(")", 32));
        t.typed(repeat("S(", 32) + "20" + repeat(")", 32), "N");
    }

    // ---- README.md

    private static void exampleOfTheReadme() {
        ProofLine line = new ProofLine();
        due("typed", line.type(0x5C783A4E, 0x2E532078, 0, 0, 0), 8);
        due("A is told", line.define(0), 0);
        due("erased", line.erase(), 8);
        due("typed", line.type(0x41203200, 0, 0, 0, 0), 3);
        due("its type", line.check(), 1);
        due("N", line.output(0), 'N');
        due("steps", line.normal(), 2);
        due("3", line.output(0), '3');
        line.erase();
        due("typed", line.type(0x41204E00, 0, 0, 0, 0), 3);
        due("A N", line.check(), ProofLine.MISMATCH);
        due("at N", line.place(), 2);
        due("the output stays", line.output(0), '3');
    }
}
