/**
 * One method for each sentence of the document that names a boundary case: at the boundary, one
 * below it, one above it, and what a refused call leaves as it was.
 */
public final class BoundaryTest extends Sheet {
    private static final int SIGN = ProofLine.SIGN;
    private static final int UNBOUND = ProofLine.UNBOUND;
    private static final int SORT = ProofLine.SORT;
    private static final int KIND = ProofLine.KIND;
    private static final int MISMATCH = ProofLine.MISMATCH;
    private static final int FUEL = ProofLine.FUEL;
    private static final int TAKEN = ProofLine.TAKEN;
    private static final int[] FAR = {Integer.MIN_VALUE, Integer.MIN_VALUE + 1, -256, -9, 9, 256, Integer.MAX_VALUE};

    public static void main(String[] args) {
        whatItIs();
        reading();
        sizesAndSteps();
        types();
        writing();
        promises();
        end("all boundaries hold");
    }

    private static void whatItIs() {
        fiveHundredAndTwelveCalls();
    }

    private static void reading() {
        lineOfAHundred();
        blanksPartDigits();
        lettersFromAToZ();
        signsOfAFunction();
        rowsOfOneOrMoreAtoms();
        numbersUpToTwenty();
        digitsSideBySide();
        namesFromAToH();
        brackets();
        innermostLetter();
        lastTermOfALetter();
        sameButForLetters();
        noOtherSigns();
    }

    private static void sizesAndSteps() {
        sizeOfNumbers();
        sizeOfEachPart();
        recursionAtZeroAndAbove();
        recursionWithFewerAndMore();
        firstStep();
        sixtySteps();
        sizeOfEighty();
        sizeOfEightyOnTheWay();
    }

    private static void types() {
        secondSort();
        sortOfProducts();
        sortOfFunctions();
        kindOfWhatIsApplied();
        mismatchOfWhatIsGiven();
        typeOfANameWhenTold();
        fuelAtTheBeginning();
        fuelAtThePart();
        sizeAtThePart();
        placeOfAPart();
    }

    private static void writing() {
        lettersBehindZ();
        lettersOfFunctionsBehindZ();
        lettersNotUsed();
        bracketsAsNeeded();
        numbersAsWritten();
    }

    private static void promises() {
        newObject();
        twentyCharacters();
        byteZeroIsNone();
        moreThanAHundred();
        moreOfEachByte();
        eraseEmptyAndFull();
        defineNoSuchName();
        defineTaken();
        defineFirstThatShows();
        lineStays();
        normalAnswersSteps();
        sameNoSuchNames();
        sameOrFuel();
        placeNone();
        placeFirstAndLast();
        outputNoneSuch();
        countAnother();
        whatThrowsChangesNothing();
        faultsChangeNothingButPlace();
    }

    // ---- "An object is used for at most 512 calls after it has been made"

    private static void fiveHundredAndTwelveCalls() {
        ProofLine x = new ProofLine();
        for (int call = 1; call <= 508; call += 2) {
            due("call " + call, x.type(0x5C783A4E, 0x2E522879, 0, 0, 0), 8);
            due("call " + (call + 1), x.erase(), 8);
        }
        due("call 509", x.type(0x5C783A4E, 0x2E532878, 0x29000000, 0, 0), 9);
        due("call 510", x.define(7), 0);
        due("call 511", x.normal(), 0);
        due("call 512", x.count(1), 8);
        ProofLine y = new ProofLine();
        y.type(0x53302020, 0, 0, 0, 0);
        for (int call = 2; call <= 511; call++) {
            due("call " + call, call % 2 == 0 ? y.check() : y.normal(), call % 2 == 0 ? 1 : 0);
        }
        due("call 512", y.output(0), '1');
    }

    // ---- "THE LINE is what was typed, at most 100 characters."

    private static void lineOfAHundred() {
        Sheet t = new Sheet();
        t.typed(repeat(" ", 98) + "N", "*").typed(repeat(" ", 99) + "N", "*").typed("N" + repeat(" ", 99), "*");
        t.faulty(repeat(" ", 99) + "x", UNBOUND, 99).faulty(repeat(" ", 99) + "(", SIGN, 100).faulty(repeat(" ", 100), SIGN, 100);
        t.comes(repeat(" ", 98) + "20", 0, "20").faulty(repeat(" ", 98) + "21", SIGN, 99);
        t.faulty(repeat(" ", 98) + "SN", MISMATCH, 99);
        due("one more", refusesType(t.it, 'N'), true);
        due("the hundred are left", t.it.check(), MISMATCH);
        due("at their place", t.it.place(), 99);
        due("hundred", t.it.erase(), 100);
    }

    // ---- "Blanks count for nothing, but part digits."

    private static void blanksPartDigits() {
        Sheet t = new Sheet();
        t.comes("\\f:N>N>N.f 12", 0, "\\a:N>N>N.a 12").comes("\\f:N>N>N.f 1 2", 0, "\\a:N>N>N.a 1 2");
        t.comes("\\f:N>N>N.f 1    2", 0, "\\a:N>N>N.a 1 2").comes("\\f:N>N>N.f12", 0, "\\a:N>N>N.a 12");
        t.comes(" \\ f : N > N . f ( 1 ) ", 0, "\\a:N>N.a 1").comes("\\f:N>N.f(1)", 0, "\\a:N>N.a 1");
        t = new Sheet();
        t.faulty("2 1", KIND, 0).faulty("21", SIGN, 1).faulty("2  1", KIND, 0).faulty("S\t0", SIGN, 1).faulty("S\n0", SIGN, 1);
        t.faulty("S\u00a00", SIGN, 1).faulty("S\u001f0", SIGN, 1).faulty("S!0", SIGN, 1);
    }

    // ---- "\ and a letter a .. z"

    private static void lettersFromAToZ() {
        for (char letter = 'a'; letter <= 'z'; letter++) {
            Sheet t = new Sheet();
            t.comes("\\" + letter + ":N." + letter, 0, "\\a:N.a");
            t.line("!" + letter + ":*." + letter);
            due("product of " + letter, t.it.check(), 1);
        }
        Sheet u = new Sheet();
        u.faulty("\\`:N.0", SIGN, 1).faulty("\\{:N.0", SIGN, 1).faulty("\\A:N.0", SIGN, 1).faulty("\\H:N.0", SIGN, 1);
        u.faulty("\\a:N.`", SIGN, 5).faulty("\\z:N.{", SIGN, 5).faulty("\\N:N.0", SIGN, 1).faulty("\\Z:N.0", SIGN, 1);
    }

    // ---- "and : and a TERM and . and a TERM, a FUNCTION; the same with ! in place of \"

    private static void signsOfAFunction() {
        for (String sign : new String[] {"\\", "!"}) {
            Sheet t = new Sheet();
            t.faulty(sign, SIGN, 1).faulty(sign + "x", SIGN, 2).faulty(sign + "x:", SIGN, 3).faulty(sign + "x:N", SIGN, 4);
            t.faulty(sign + "x:N.", SIGN, 5).faulty(sign + ":N.N", SIGN, 1).faulty(sign + "xN.N", SIGN, 2).faulty(sign + "x.N", SIGN, 2);
            t.faulty(sign + "x:.N", SIGN, 3).faulty(sign + "x:N:N", SIGN, 4).faulty(sign + "x:N.N.", SIGN, 6).faulty(sign + "x::N.N", SIGN, 3);
            t.faulty(sign + "xx:N.N", SIGN, 2).faulty("N" + sign + "x:N.N", SIGN, 1).faulty(sign + "x:(N.N)", SIGN, 5);
            t.line(sign + "x:" + sign + "y:N.N.N");
            due("binder behind a colon", t.it.check(), sign.equals("!") ? 1 : SORT);
            t.line(sign + "x:N." + sign + "y:N.N");
            due("binder behind a dot", t.it.check(), sign.equals("!") ? 1 : 5);
        }
    }

    // ---- "a row of one or more ATOMS, ... then nothing, or > and a TERM"

    private static void rowsOfOneOrMoreAtoms() {
        Sheet t = new Sheet();
        t.faulty("", SIGN, 0).faulty(" ", SIGN, 1).faulty("()", SIGN, 1).faulty("(  )", SIGN, 3).faulty("S()", SIGN, 2);
        t.faulty(">N", SIGN, 0).faulty("(>N)", SIGN, 1).faulty("N>", SIGN, 2).faulty("(N>)", SIGN, 3).faulty("N>>N", SIGN, 2);
        t.faulty("!x:>N.N", SIGN, 3).faulty("!x:N>.N", SIGN, 5).faulty("!x:N.>N", SIGN, 5);
        t.typed("N", "*").typed("S 0", "N").typed("(\\x:N.\\y:N.\\z:N.x)0 1 2", "N").typed("N>N", "*").typed("N>N>N", "*");
        t.typed("N>!x:N.N", "*").faulty("N>\\x:N.N", SORT, 2).comes("\\f:N>N>N.f 0 1", 0, "\\a:N>N>N.a 0 1");
        t.comes("\\f:N>N>N.f(S 0)1", 0, "\\a:N>N>N.a 1 1").faulty("\\f:N>N.f f 0", MISMATCH, 9);
    }

    // ---- "a number 0 .. 20 ... (if they are above 20, the second cannot be there"

    private static void numbersUpToTwenty() {
        for (int number = 0; number <= 20; number++) {
            Sheet t = new Sheet();
            t.comes("" + number, 0, "" + number);
            due("size of " + number, t.it.count(2), 2 * number + 1);
        }
        for (int number = 21; number <= 99; number++) {
            new Sheet().faulty("" + number, SIGN, 1);
        }
        for (int number = 0; number <= 9; number++) {
            new Sheet().comes("0" + number, 0, "" + number);
        }
        Sheet t = new Sheet();
        t.faulty("/", SIGN, 0).faulty("1/", SIGN, 1).faulty(":", SIGN, 0).faulty("1:", SIGN, 1).faulty("-1", SIGN, 0).faulty("+1", SIGN, 0);
        t.faulty("S(21)", SIGN, 3).faulty("21 x", SIGN, 1).faulty("x 21", UNBOUND, 0).faulty("S 2 1", KIND, 0);
    }

    // ---- "of one or two digits, two where two stand side by side ...; a third begins another ATOM"

    private static void digitsSideBySide() {
        Sheet t = new Sheet();
        t.comes("\\f:N>N>N.f 1", 0, "\\a:N>N>N.a 1").comes("\\f:N>N>N.f 20", 0, "\\a:N>N>N.a 20");
        t.comes("\\f:N>N>N.f 200", 0, "\\a:N>N>N.a 20 0").comes("\\f:N>N>N.f 209", 0, "\\a:N>N>N.a 20 9");
        t.comes("\\f:N>N>N.f 1020", 0, "\\a:N>N>N.a 10 20").comes("\\f:N>N>N.f 0000", 0, "\\a:N>N>N.a 0 0");
        t = new Sheet();
        t.comes("\\f:N>N>N>N.f 10101", 0, "\\a:N>N>N>N.a 10 10 1").comes("\\f:N>N>N.f 012", 0, "\\a:N>N>N.a 1 2");
        t.comes("\\f:N>N>N.f 1 12", 0, "\\a:N>N>N.a 1 12").comes("\\f:N>N>N.f 1(2)", 0, "\\a:N>N>N.a 1 2");
        t = new Sheet();
        t.faultyNormal("\\f:N>N>N.f 2020");
        t.faultyBehind("\\f:N>N>N.f 202", "1", SIGN).faultyBehind("\\f:N>N>N.f 2", "10", SIGN).faultyBehind("\\f:N>N>N.f 012", "1", SIGN);
        t.faulty("100", KIND, 0).faulty("1000", KIND, 0).faulty("999", SIGN, 1);
    }

    // ---- "a NAME A .. H"

    private static void namesFromAToH() {
        Sheet t = new Sheet();
        for (int name = 0; name < 8; name++) {
            String sign = "" + (char) ('A' + name);
            t.line(sign);
            due("before it is told: " + sign, t.it.check(), UNBOUND);
            due("its place", t.it.place(), 0);
            t.tell(sign, "" + name).comes(sign, 1, "" + name);
            due("so many names", t.it.count(0), name + 1);
        }
        for (String sign : new String[] {"@", "I", "J", "L", "M", "O", "Q", "T", "Z", "["}) {
            t.line("S " + sign);
            due("no such name: " + sign, t.it.check(), SIGN);
            due("at its place", t.it.place(), 2);
        }
    }

    // ---- "or a TERM in ( and )"

    private static void brackets() {
        Sheet t = new Sheet();
        t.typed("(N)", "*").typed("((N))", "*").typed("(N)>(N)", "*").typed("(\\x:N.x)(0)", "N").typed("(S)(0)", "N");
        t.faulty("(", SIGN, 1).faulty(")", SIGN, 0).faulty("(N", SIGN, 2).faulty("N)", SIGN, 1).faulty("((N)", SIGN, 4).faulty("(N))", SIGN, 3);
        t.faulty(")(", SIGN, 0).faulty("(N)(", SIGN, 4).faulty("(\\x:N)", SIGN, 5).faulty("\\x:(N.x)", SIGN, 5).faulty("(N>N", SIGN, 4);
        t.typed(repeat("(", 49) + "N" + repeat(")", 49), "*").typed(repeat("(", 49) + "15" + repeat(")", 49), "N");
        t.faulty(repeat("(", 50) + "N" + repeat(")", 49), SIGN, 100).faulty(repeat("(", 49) + "N" + repeat(")", 50), SIGN, 99);
        t.faulty(repeat("(", 50) + repeat(")", 50), SIGN, 50).faulty(repeat("(", 100), SIGN, 100).faulty(repeat(")", 100), SIGN, 0);
        t.comes(repeat("S(", 33) + "0" + repeat(")", 33), 0, "33").faulty(repeat("S(", 50), SIGN, 100);
    }

    // ---- "A letter is the one of the innermost \ or ! told to its left"

    private static void innermostLetter() {
        Sheet t = new Sheet();
        t.comes("\\x:N.\\x:N.x", 0, "\\a:N.\\b:N.b").comes("\\x:N.\\y:N.x", 0, "\\a:N.\\b:N.a");
        t.comes("\\x:N.\\x:N.\\y:N.x", 0, "\\a:N.\\b:N.\\c:N.b").comes("!x:*.!x:x.N", 0, "!a:*.a>N").comes("!x:*.!x:*.x", 0, "*>!b:*.b");
        t.comes("\\x:N.(\\x:N>N.x)(\\x:N.S x)x", 2, "\\a:N.S a").comes("\\x:*.\\y:(!x:*.x).x", 0, "\\a:*.\\b:!b:*.b.a");
        t.comes("\\x:*.N>x", 0, "\\a:*.N>a").comes("!x:*.N>x>x", 0, "!a:*.N>a>a");
    }

    // ---- "in whose last TERM it stands"; "UNBOUND, a letter or NAME that has nothing"

    private static void lastTermOfALetter() {
        Sheet t = new Sheet();
        t.faulty("x", UNBOUND, 0).faulty("\\x:x.0", UNBOUND, 3).faulty("!x:x.N", UNBOUND, 3).faulty("\\x:N.y", UNBOUND, 5);
        t.faulty("(\\x:N.x)x", UNBOUND, 8).faulty("(\\x:N.0)x", UNBOUND, 8).faulty("(!x:N.N)>x", UNBOUND, 9).faulty("\\x:!y:*.y.y", UNBOUND, 10);
        t.faulty("\\x:(\\y:N.y)y.0", UNBOUND, 11).faulty("!x:N>x.N", UNBOUND, 5).typed("!x:*.N>x", "*").typed("\\x:!y:*.y.x N", "(!a:*.a)>N");
        t.faulty("\\x:N.\\y:N.(\\z:N.z)z", UNBOUND, 18).typed("\\x:N.\\y:N.(\\z:N.z)x", "N>N>N").faulty("A", UNBOUND, 0);
        t.tell("A", "\\x:N.x").faulty("A x", UNBOUND, 2).faulty("\\x:N.B", UNBOUND, 5);
    }

    // ---- "Two TERMS are the same if they differ in such letters only."

    private static void sameButForLetters() {
        Sheet t = new Sheet();
        t.tell("A", "\\x:*.\\y:x.y").tell("B", "\\y:*.\\x:y.x").tell("C", "\\x:*.\\x:x.x").tell("D", "\\x:N.\\y:N.x").tell("E", "\\x:N.\\y:N.y");
        due("letters", t.it.same(0, 1), 1);
        due("letters that hide another", t.it.same(0, 2), 1);
        due("another letter", t.it.same(3, 4), 0);
        t.typed("\\p:(!x:*.x)>N.\\f:!y:*.y.p f", "((!a:*.a)>N)>(!b:*.b)>N").faulty("\\p:(!x:*.x)>N.\\f:!y:*.N.p f", MISMATCH, 26);
        t.typed("\\p:(N>N)>N.\\f:!y:N.N.p f", "((N>N)>N)>(N>N)>N");
    }

    // ---- "SIGN, a character that cannot be there": no byte but those that the document names

    private static void noOtherSigns() {
        String known = " \\!*NSR0123456789ABCDEFGH(abcdefghijklmnopqrstuvwxyz";
        for (int sign = 1; sign <= 255; sign++) {
            ProofLine x = new ProofLine();
            x.type(sign, 0, 0, 0, 0);
            int answer = x.check();
            if (known.indexOf(sign) < 0) {
                due("sign " + sign, answer, SIGN);
                due("place of sign " + sign, x.place(), 0);
            } else {
                due("sign " + sign + " at its place", answer == SIGN && x.place() == 0, false);
            }
        }
    }

    // ---- "(a number n: 2 n + 1)"

    private static void sizeOfNumbers() {
        Sheet t = new Sheet();
        t.comes("0", 0, "0");
        due("size of 0", t.it.count(2), 1);
        t.comes("1", 0, "1");
        due("size of 1", t.it.count(2), 3);
        t.comes("20", 0, "20");
        due("size of 20", t.it.count(2), 41);
        t.comes("S 20", 0, "21");
        due("size of 21", t.it.count(2), 43);
        t.comes(repeat("S(", 19) + "20" + repeat(")", 19), 0, "39");
        due("size of 39", t.it.count(2), 79);
        t.faultyNormal(repeat("S(", 20) + "20" + repeat(")", 20));
    }

    // ---- "1 for each ATOM in it but brackets, ... 1 for each application, FUNCTION, PRODUCT"

    private static void sizeOfEachPart() {
        String[] lines = {"N", "(N)", "*", "S", "R", "N>N", "!x:N.N", "!x:*.x", "\\x:N.x", "((\\x:(N).(x)))", "\\f:N>N.f(f 0)", "N>N>N"};
        int[] sizes = {1, 1, 1, 1, 1, 3, 3, 3, 3, 3, 9, 5};
        Sheet t = new Sheet();
        for (int i = 0; i < lines.length; i++) {
            t.line(lines[i]);
            due("steps of " + lines[i], t.it.normal(), 0);
            due("size of " + lines[i], t.it.count(2), sizes[i]);
        }
    }

    // ---- "R P z f 0 ... by z; R P z f (S n) by f n (R P z f n)"

    private static void recursionAtZeroAndAbove() {
        Sheet t = new Sheet();
        t.comes("R(\\x:N.N)7(\\x:N.\\y:N.x)0", 1, "7").comes("R(\\x:N.N)7(\\x:N.\\y:N.x)1", 3, "0").comes("R(\\x:N.N)7(\\x:N.\\y:N.x)2", 3, "1");
        t.comes("R(\\x:N.N)7(\\x:N.\\y:N.y)0", 1, "7").comes("R(\\x:N.N)7(\\x:N.\\y:N.y)1", 4, "7").comes("R(\\x:N.N)7(\\x:N.\\y:N.y)2", 7, "7");
        t.comes("\\n:N.R(\\x:N.N)7(\\x:N.S)n", 0, "\\a:N.R (\\b:N.N) 7 (\\b:N.S) a");
        t.comes("\\n:N.R(\\x:N.N)7(\\x:N.\\y:N.x)(S n)", 3, "\\a:N.a").comes("\\n:N.R(\\x:N.N)7(\\x:N.\\y:N.x)(S(S n))", 3, "\\a:N.S a");
        t.tell("A", "0").comes("R(\\x:N.N)7(\\x:N.S)A", 2, "7").comes("R(\\x:N.N)7(\\x:N.\\y:N.x)(S A)", 4, "0");
    }

    // ---- "(R applied to P and so on)": not before its fourth TERM is there

    private static void recursionWithFewerAndMore() {
        Sheet t = new Sheet();
        t.comes("R", 0, "R").comes("R(\\x:N.N)", 0, "R (\\a:N.N)").comes("R(\\x:N.N)0", 0, "R (\\a:N.N) 0");
        t.comes("R(\\x:N.N)0(\\x:N.S)", 0, "R (\\a:N.N) 0 (\\a:N.S)").comes("R(\\x:N.N)0(\\x:N.S)0", 1, "0");
        t.comes("R(\\x:N.N>N)S(\\x:N.\\f:N>N.f)0", 1, "S").comes("R(\\x:N.N>N)S(\\x:N.\\f:N>N.f)0 0", 1, "1");
        t.comes("\\f:N>(N>N)>N.f 0(R(\\x:N.N)0(\\x:N.S))", 0, "\\a:N>(N>N)>N.a 0 (R (\\b:N.N) 0 (\\b:N.S))");
        recursionThatIsGiven();
    }

    /** R and P, z, f, 0 stand side by side, but not all of them belong to R. */
    private static void recursionThatIsGiven() {
        Sheet t = new Sheet();
        t.comes("\\g:(N>N)>N>N.g(R(\\x:N.N)0(\\x:N.S))0", 0, "\\a:(N>N)>N>N.a (R (\\b:N.N) 0 (\\b:N.S)) 0");
        t.comes("\\g:((N>N>N)>N>N)>(N>N>N)>N>N.g(R(\\x:N.N)0)(\\x:N.S)0", 0,
            "\\a:((N>N>N)>N>N)>(N>N>N)>N>N.a (R (\\b:N.N) 0) (\\b:N.S) 0");
        t = new Sheet();
        t.comes("\\g:(N>(N>N>N)>N>N)>N>(N>N>N)>N>N.g(R(\\x:N.N))0(\\x:N.S)0", 0,
            "\\a:(N>(N>N>N)>N>N)>N>(N>N>N)>N>N.a (R (\\b:N.N)) 0 (\\b:N.S) 0");
        t.tell("A", "!p:N>*.p 0>(!n:N.p n>p(S n))>!n:N.p n");
        t.comes("\\g:A>(N>*)>N>(N>N>N)>N>N.g R(\\x:N.N)0(\\x:N.S)0", 1,
            "\\a:(!a:N>*.a 0>(!c:N.a c>a (S c))>!d:N.a d)>(N>*)>N>(N>N>N)>N>N.a R (\\b:N.N) 0 (\\b:N.S) 0");
    }

    // ---- "The FIRST one: in a TERM itself before its parts, in the parts from left to right."

    private static void firstStep() {
        Sheet t = new Sheet();
        t.tell("A", "\\x:N.x");
        // Itself before its parts: what the whole throws away is never looked at.
        t.comes("(\\x:N.0)(A(A 1))", 1, "0").comes("(\\x:N.(\\y:N.y)0)(A 1)", 2, "0").comes("R(\\x:N.(\\y:*.y)N)3(\\x:N.S)0", 1, "3");
        t.comes("(\\x:N.\\f:N>N>N.f x x)(A 1)", 5, "\\a:N>N>N.a 1 1").comes("R(\\x:N.N)0(\\x:N.\\y:N.x)(S(A 4))", 5, "4");
        // From left to right: the parts of R before its number, the type before the last TERM.
        t.comes("R(\\x:N.(\\y:*.y)N)7(\\x:N.\\y:N.y)(A 0)", 4, "7").comes("R(\\x:N.N)((\\y:N.y)7)(\\x:N.\\y:N.0)(A 0)", 4, "7");
        t.comes("R(\\x:N.N)7((\\z:N.\\x:N.\\y:N.0)2)(A 0)", 4, "7").comes("(A 0)", 2, "0");
        t.comes("\\x:(\\y:*.y)N.(\\y:N.x)0", 2, "\\a:N.a").comes("!x:(\\y:*.y)N.N", 1, "N>N");
        // In the middle of the way only the FIRST one tells whether a TERM gets too big.
        t.comes("(\\x:N.(\\y:N.\\z:N.z)x 1)20", 3, "1").faultyNormal("(\\x:N.\\f:N>N>N.f x x)20");
    }

    // ---- "FUEL is the fault if that takes more than 60"

    /** E takes 59 STEPS to 3, so (\x:N.x)E takes 60, and A E, as A is another NAME, 61. */
    private static Sheet dear() {
        Sheet t = new Sheet();
        t.tell("A", "\\x:N.x").tell("B", "\\x:N.A(A(A(A(A x))))").tell("C", "\\x:N.B(B x)").tell("D", "\\x:N.C(C x)").tell("E", "A(A(D 3))");
        return t;
    }

    private static void sixtySteps() {
        Sheet t = dear();
        t.comes("D 3", 54, "3").comes("E", 59, "3").comes("(\\x:N.x)E", 60, "3").faultyNormal("A E").faultyNormal("(\\x:N.x)((\\x:N.x)E)");
        t.comes("S((\\x:N.x)E)", 60, "4").faultyNormal("S(A E)").comes("\\y:N.(\\x:N.x)E", 60, "\\a:N.3").faultyNormal("\\y:N.A E");
        // A NORMAL FORM that is never looked for costs nothing.
        t.comes("(\\x:N.0)(A E)", 1, "0").typed("A E", "N").typed("A(A(A(A E)))", "N");
    }

    // ---- "or some TERM on the way has a SIZE above 80"

    private static void sizeOfEighty() {
        Sheet t = new Sheet();
        // The parts of a TERM are none or two, so its SIZE is odd: 79 and 81 stand next to the boundary.
        t.comes("\\f:N>N>N.f 20 13", 0, "\\a:N>N>N.a 20 13");
        due("size", t.it.count(2), 77);
        t.comes("\\f:N>N>N.f 20 14", 0, "\\a:N>N>N.a 20 14");
        due("size", t.it.count(2), 79);
        t.faultyNormal("\\f:N>N>N.f 20 15").faultyNormal("\\f:N>N>N.f 20 20").faultyNormal("\\f:N>N>N.(\\x:N.f x 20)17");
        due("output of the last that had one", t.it.count(2), 79);
        t.tell("A", "\\f:N>N>N.f 20 14").comes("A", 1, "\\a:N>N>N.a 20 14");
        t.tell("B", "\\f:N>N>N.f 20 15").faultyNormal("B");
        t.typed("B", "(N>N>N)>N").faultyNormal("B(\\x:N.\\y:N.y)");
    }

    private static void sizeOfEightyOnTheWay() {
        Sheet t = new Sheet();
        // Behind the first STEP: 77, 79, 81.
        t.comes("(\\x:N.(\\y:N.\\z:N.0)x x)17", 3, "0").comes("(\\x:N.S((\\y:N.\\z:N.0)x x))17", 3, "1");
        t.faultyNormal("(\\x:N.S(S((\\y:N.\\z:N.0)x x)))17").faultyNormal("(\\x:N.(\\y:N.\\z:N.0)x x)18");
        // R: 79 behind its STEP, 81, 83.
        t.comes("R(\\x:N.N)0(\\x:N.\\y:N.x)15", 3, "14").faultyNormal("S(R(\\x:N.N)0(\\x:N.\\y:N.x)15)").faultyNormal("R(\\x:N.N)0(\\x:N.\\y:N.x)16");
        // A NAME: 79, 81.
        t.tell("A", repeat("S(", 17) + "20" + repeat(")", 17)).comes("S(S A)", 1, "39").faultyNormal("S(S(S A))").comes("(\\x:N.0)A", 1, "0");
        t.comes("\\x:N.S A", 1, "\\a:N.38").faultyNormal("\\x:N.S(S A)");
    }

    // ---- "There is a second SORT, written #, that no TERM has."

    private static void secondSort() {
        Sheet t = new Sheet();
        t.faulty("#", SIGN, 0).faulty("N>#", SIGN, 2).faulty("\\x:#.0", SIGN, 3).faulty("\\x:N.#", SIGN, 5).faulty("S #", SIGN, 2);
        t.typed("*", "#");
        due("size of #", t.it.count(2), 1);
        t.typed("N>*", "#").typed("*>*", "#").typed("!x:*.*", "#").typed("N>N", "*").comes("*", 0, "*");
        t.tell("A", "*").typed("A", "#").comes("A", 1, "*").tell("B", "A>A").typed("B", "#").comes("B", 3, "*>*");
        t.faulty("* 0", KIND, 0).faulty("S *", MISMATCH, 2).faulty("(\\x:*.x)*", MISMATCH, 8).typed("(\\x:*.x)N", "*");
    }

    // ---- "the type of A must have a SORT as its NORMAL FORM (SORT, at A, if not), then that of B, too (SORT, at B)"

    private static void sortOfProducts() {
        Sheet t = new Sheet();
        t.faulty("0>N", SORT, 0).faulty("N>0", SORT, 2).faulty("0>0", SORT, 0).faulty("!x:0.N", SORT, 3).faulty("!x:N.0", SORT, 5).faulty("!x:S.S", SORT, 3);
        t.faulty("!x:N.x", SORT, 5).typed("!x:*.x", "*").typed("N>*", "#").typed("*>N", "*").faulty("S>N", SORT, 0).faulty("R>N", SORT, 0);
        t.tell("A", "*").typed("\\x:A.x>x", "*>*").typed("\\x:A.\\y:x.y", "!a:*.a>a").typed("!x:A.x", "*").tell("B", "A");
        t.typed("\\x:B.x>x", "*>*").faulty("\\x:B.\\y:x.y>N", SORT, 10).faulty("\\x:B.\\y:x.N>y", SORT, 12);
        t.typed("\\p:N>A.p 0>p 1", "(N>*)>*").faulty("\\p:N>A.p>N", SORT, 7).faulty("\\p:N>N.p 0>N", SORT, 7);
    }

    // ---- "A as with a PRODUCT, then the type of b, B, which must not be # (SORT, at b)"

    private static void sortOfFunctions() {
        Sheet t = new Sheet();
        t.faulty("\\x:0.0", SORT, 3).faulty("\\x:0.*", SORT, 3).faulty("\\x:N.*", SORT, 5).faulty("\\x:N.N>*", SORT, 5).typed("\\x:N.N>N", "N>*");
        t.faulty("\\x:N.\\y:N.*", SORT, 10).typed("\\x:N.N", "N>*").typed("\\x:*.x", "*>*").faulty("\\x:N.(*>*)", SORT, 5);
        t.tell("A", "*").faulty("\\x:N.A", SORT, 5).typed("\\x:A.0", "*>N").faulty("(\\x:N.A)0", SORT, 6);
    }

    // ---- "the NORMAL FORM of the type of f must be a PRODUCT !x:A.B (KIND, at f, if not)"

    private static void kindOfWhatIsApplied() {
        Sheet t = new Sheet();
        t.faulty("0 0", KIND, 0).faulty("N 0", KIND, 0).faulty("* 0", KIND, 0).faulty("S 0 0", KIND, 0).faulty("S(0 0)", KIND, 2).faulty("(N>N)0", KIND, 0);
        t.typed("S 0", "N").typed("\\f:N>N>N.f 0", "(N>N>N)>N>N").typed("\\f:N>N>N.f 0 0", "(N>N>N)>N").faulty("\\f:N>N>N.f 0 0 0", KIND, 9);
        t.tell("A", "N>N").typed("\\f:A.f 0", "(N>N)>N").faulty("\\f:A.f 0 0", KIND, 5).tell("B", "\\x:*.x>x").typed("\\f:B N.f 0", "(N>N)>N");
        t.faulty("\\f:B N.f 0 0", KIND, 7).faulty("A 0", KIND, 0).faulty("0 x", UNBOUND, 2).faulty("0(0 0)", KIND, 0);
    }

    // ---- "its NORMAL FORM must be the same as that of A, which is looked for then (MISMATCH, at a, if not)"

    private static void mismatchOfWhatIsGiven() {
        Sheet t = new Sheet();
        t.faulty("S N", MISMATCH, 2).faulty("S S", MISMATCH, 2).faulty("S *", MISMATCH, 2).faulty("S(S)", MISMATCH, 1).typed("S(S 0)", "N");
        t.typed("\\p:N>*.\\x:p 10.\\f:p(S 9)>N.f x", "!a:N>*.a 10>(a 10>N)>N").faulty("\\p:N>*.\\x:p 20.\\f:p(S 20)>N.f x", MISMATCH, 30);
        t.tell("A", "N").tell("B", "\\x:*.x").typed("\\x:A.S x", "N>N").typed("\\x:B A.S x", "N>N").typed("\\f:A>N.\\x:B N.f x", "(N>N)>N>N");
        t.faulty("\\f:A>N.\\x:B(A>A).f x", MISMATCH, 19).faulty("S N(0 0)", MISMATCH, 2).faulty("S(0 0)", KIND, 2).faulty("R(\\x:N.N)N", MISMATCH, 9);
        t = new Sheet();
        t.faulty("R S", MISMATCH, 2).typed("R(\\x:N.N)0(\\x:N.S)", "N>N").faulty("R(\\x:N.N)0 S", MISMATCH, 11).faulty("R(\\x:N.N)0(\\x:N.S)N", MISMATCH, 18);
    }

    // ---- "of a NAME that which was found when it was told"

    private static void typeOfANameWhenTold() {
        Sheet t = new Sheet();
        t.tell("A", "N").tell("B", "\\x:A.x").typed("B", "N>N").typed("B 0", "N").faulty("B N", MISMATCH, 2);
        // The type was found and kept, though its NORMAL FORM would be FUEL.
        Sheet u = dear();
        u.tell("F", "\\p:N>*.\\x:p(A E).0").faultyCheck("F").faulty("F S", FUEL, 0).typed("(\\x:N.x)3", "N");
    }

    // ---- "(FUEL at place 0 for that NORMAL FORM)"

    private static void fuelAtTheBeginning() {
        Sheet t = dear();
        t.typed("\\p:N>*.\\x:p E.0", "!a:N>*.a 3>N").typed("\\p:N>*.\\x:p((\\x:N.x)E).0", "!a:N>*.a 3>N").faultyCheck("\\p:N>*.\\x:p(A E).0");
        t.faultyCheck("  \\p:N>*.\\x:p(A E).0").faultyCheck("(\\p:N>*.\\x:p(A E).0)").faultyNormal("  A E").faultyNormal("(A E)");
        // What is FUEL for check is none for define, nor is the TERM's own for check.
        t.line("\\p:N>*.\\x:p(A E).0");
        due("define", t.it.define(5), 0);
        t.line("A E");
        due("define", t.it.define(6), 0);
        due("check", t.it.check(), 1);
        Sheet u = new Sheet();
        u.typed("\\p:N>N>*.\\x:p 20 13.0", "!a:N>N>*.a 20 13>N");
        due("size", u.it.count(2), 79);
        u.faultyCheck("\\p:N>N>*.\\x:p 20 14.0").faultyCheck(" \\p:N>N>*.\\x:p 20 20.0");
        u.typed("\\p:N>*.\\x:p((\\x:N.S((\\y:N.\\z:N.0)x x))15).0", "!a:N>*.a 1>N");
        u.faultyCheck("\\p:N>*.\\x:p((\\x:N.S(S((\\y:N.\\z:N.0)x x)))15).0");
    }

    // ---- "(FUEL at the part whose type was brought to its NORMAL FORM; ...)"

    private static void fuelAtThePart() {
        String[] cheap = {"\\p:N>*.\\x:p E.", "\\p:N>*.\\x:p((\\x:N.x)E)."};
        for (String before : cheap) {
            Sheet t = dear();
            t.faultyBehind(before, "x>N", SORT).faultyBehind(before + "N>", "x", SORT).faultyBehind(before + "\\y:", "x.0", SORT);
            t.faultyBehind(before + "!y:N.", "x", SORT).faultyBehind(before, "x 0", KIND).faultyBehind(before + "S", "(x)", MISMATCH);
        }
        Sheet t = dear();
        String dear = "\\p:N>*.\\x:p(A E).";
        t.faultyBehind(dear, "x>N", FUEL).faultyBehind(dear + "N>", "x", FUEL).faultyBehind(dear + "\\y:", "x.0", FUEL);
        t.faultyBehind(dear + "!y:N.", "x", FUEL).faultyBehind(dear, "x 0", FUEL).faultyBehind(dear + "S", "(x)", FUEL).faultyBehind(dear + "S ", "x", FUEL);
        t.faultyBehind(dear + "S(", "x 0)", FUEL).faultyBehind(dear + "S(", "(x)0)", FUEL).faultyBehind(dear + "(", "x>N)", FUEL);
        // What is applied is looked at before what is given, and each before what hangs on it.
        t.faultyBehind(dear, "x(0 0)", FUEL).faultyBehind(dear, "0 x", KIND).faultyBehind(dear + "S ", "S x", MISMATCH);
        Sheet u = dear();
        u.faultyBehind("\\p:N>*.\\f:p E>N.\\x:p E.", "f x 0", KIND).faultyBehind("\\p:N>*.\\f:p((\\x:N.x)E)>N.\\x:p 3.", "f x 0", KIND);
        u.faultyBehind("\\p:N>*.\\f:p(A E)>N.\\x:p 3.", "f x 0", FUEL).faultyBehind("\\p:N>*.\\f:p 3>N.\\x:p((\\x:N.x)E).", "f x 0", KIND);
        u.faultyBehind("\\p:N>*.\\f:p 3>N.\\x:p(A E).f ", "x 0", FUEL).faultyBehind("\\p:N>*.\\f:p 2>N.\\x:p((\\x:N.x)E).f ", "x 0", MISMATCH);
    }

    private static void sizeAtThePart() {
        Sheet t = new Sheet();
        String fits = "\\p:N>N>*.\\x:p 20 17.";
        t.faultyBehind(fits, "x>N", SORT).faultyBehind(fits + "N>", "x", SORT).faultyBehind(fits + "\\y:", "x.0", SORT);
        t.faultyBehind(fits, "x 0", KIND).faultyBehind(fits + "S ", "x", MISMATCH);
        String over = "\\p:N>N>*.\\x:p 20 18.";
        t.faultyBehind(over, "x>N", FUEL).faultyBehind(over + "N>", "x", FUEL).faultyBehind(over + "\\y:", "x.0", FUEL);
        t.faultyBehind(over, "x 0", FUEL).faultyBehind(over + "S ", "x", FUEL);
        Sheet u = new Sheet();
        u.faultyBehind("\\p:N>N>*.\\f:p 20 16>N.\\x:p 20 16.", "f x 0", KIND).faultyBehind("\\p:N>N>*.\\f:p 20 17>N.\\x:p 20 17.", "f x 0", FUEL);
        u.faultyBehind("\\p:N>N>*.\\f:p 20 16>N.\\x:p 20 17.f ", "x 0", MISMATCH).faultyBehind("\\p:N>N>*.\\f:p 20 16>N.\\x:p 20 18.f ", "x 0", FUEL);
        // B with a for x: 79 and 81; what is given is not looked at beyond its type.
        u.faultyBehind("\\p:N>N>*.\\f:!n:N.p 20 n.", "f 17 0", KIND).faultyBehind("\\p:N>N>*.\\f:!n:N.p 20 n.", "f 18 0", FUEL);
        u.typed("\\f:N>N>N>N.f 20 20 20", "(N>N>N>N)>N");
    }

    // ---- "The place of a part is that of its first character (a bracket, if it is in some)."

    private static void placeOfAPart() {
        Sheet t = new Sheet();
        t.faulty("0 0", KIND, 0).faulty("(0)0", KIND, 0).faulty("((0))0", KIND, 0).faulty(" ( 0 ) 0", KIND, 1).faulty("(0 0)", KIND, 1).faulty("((0)0)", KIND, 1);
        t.faulty("S N", MISMATCH, 2).faulty("S(N)", MISMATCH, 1).faulty("S((N))", MISMATCH, 1).faulty("S ( (N))", MISMATCH, 2).faulty("S 0(0)", KIND, 0);
        t.faulty("(S 0)(0)", KIND, 0).faulty("S(S 0 0)", KIND, 2).faulty("S((S 0)0)", KIND, 2).faulty("N>(0)", SORT, 2).faulty("(0)>N", SORT, 0);
        t.faulty("\\x:(0).x", SORT, 3).faulty("\\x: 0.x", SORT, 4).faulty("\\x:N.(*)", SORT, 5).faulty("\\x:N. *", SORT, 6).faulty("S(\\x:N.x)", MISMATCH, 1);
        t.faulty("S 12N", KIND, 0).faulty("S(12 0)", KIND, 2).faulty("0>0>0", SORT, 0).faulty("N>0>0", SORT, 2).faulty("N>N>0", SORT, 4).faulty("N>(N>0)", SORT, 5);
    }

    // ---- "b for those in that of one, and so on, behind z again a"

    private static void lettersBehindZ() {
        Sheet t;
        for (int around = 23; around <= 28; around++) {
            t = new Sheet();
            String letter = "" + "abcdefghijklmnopqrstuvwxyzabcdef".charAt(around);
            t.comes(repeat("N>", around) + "!x:*.x", 0, repeat("N>", around) + "!" + letter + ":*." + letter);
        }
        t = new Sheet();
        t.comes("!x:*." + repeat("N>", 24) + "!y:*.x>y", 0, "!a:*." + repeat("N>", 24) + "!z:*.a>z");
        t.comes("!x:*." + repeat("N>", 25) + "!y:*.x>y", 0, "!a:*." + repeat("N>", 25) + "!a:*.a>a");
        t.comes("!x:*." + repeat("N>", 26) + "!y:*.x>y", 0, "!a:*." + repeat("N>", 26) + "!b:*.a>b");
        // Only the last TERM of another one counts: what stands before > or . does not.
        t.comes("(!x:*.x)>!x:*.x", 0, "(!a:*.a)>!b:*.b").comes("!y:!x:*.x.!z:*.z", 0, "(!a:*.a)>!b:*.b").comes("\\y:!x:*.x.0", 0, "\\a:!a:*.a.0");
    }

    private static void lettersOfFunctionsBehindZ() {
        StringBuilder round = new StringBuilder();
        for (char letter = 'a'; letter <= 'x'; letter++) {
            round.append('\\').append(letter).append(":N.");
        }
        String[] more = {"", "\\n:N.", "\\n:N.\\n:N.", "\\n:N.\\m:N.\\n:N."};
        String[] last = {"\\y:N.y", "\\y:N.\\z:N.z", "\\y:N.\\z:N.\\a:N.a", "\\y:N.\\z:N.\\a:N.\\b:N.b"};
        for (int i = 0; i < more.length; i++) {
            Sheet t = new Sheet();
            t.tell("A", repeat("\\a:N.", 12) + "\\x:N.x").tell("B", repeat("\\a:N.", 12) + "A").comes(more[i] + "B", 2, round + last[i]);
        }
    }

    // ---- "a PRODUCT whose letter is not used is A>B"

    private static void lettersNotUsed() {
        Sheet t = new Sheet();
        t.comes("!x:N.N", 0, "N>N").comes("!x:*.x", 0, "!a:*.a").comes("!x:*.N>x", 0, "!a:*.N>a").comes("!x:*.!y:x.N", 0, "!a:*.a>N").comes("\\x:N.N", 0, "\\a:N.N");
        t.comes("!x:*.!x:*.x", 0, "*>!b:*.b").comes("!x:*.(\\y:*.N)x", 1, "*>N").comes("!p:N>*.p 0>N", 0, "!a:N>*.a 0>N").comes("N>N>N", 0, "N>N>N");
        t.comes("!x:*.(!y:*.y)>x", 0, "!a:*.(!b:*.b)>a").comes("!x:*.!y:*.x", 0, "!a:*.*>a").comes("!x:*.!y:*.y", 0, "*>!b:*.b");
    }

    // ---- "A in brackets if it is a PRODUCT or FUNCTION; ... f in brackets if it is a FUNCTION or PRODUCT, a if it is no ATOM"

    private static void bracketsAsNeeded() {
        Sheet t = new Sheet();
        t.comes("(N)>(N)", 0, "N>N").comes("(N>N)>N", 0, "(N>N)>N").comes("N>(N>N)", 0, "N>N>N").comes("\\p:N>*.(p 0)>(p 1)", 0, "\\a:N>*.a 0>a 1");
        t.comes("(!x:*.x)>N", 0, "(!a:*.a)>N").comes("\\f:N>N.f(0)", 0, "\\a:N>N.a 0").comes("\\f:N>N.f(f 0)", 0, "\\a:N>N.a (a 0)").comes("\\f:N>N>N.(f 0)1", 0, "\\a:N>N>N.a 0 1");
        t.comes("\\f:(N>N)>N.f(\\x:N.x)", 0, "\\a:(N>N)>N.a (\\b:N.b)").comes("\\f:*>N.f(N>N)", 0, "\\a:*>N.a (N>N)").comes("\\f:*>N.f(!x:*.x)", 0, "\\a:*>N.a (!b:*.b)");
        t = new Sheet();
        t.comes("\\f:*>N.f N", 0, "\\a:*>N.a N").comes("\\f:(N>N)>N.f S", 0, "\\a:(N>N)>N.a S").comes("\\x:N.S x", 0, "\\a:N.S a").comes("\\x:N.S(S x)", 0, "\\a:N.S (S a)");
        t.comes("\\x:(N>N).x", 0, "\\a:N>N.a").comes("\\x:N.(N>N)", 0, "\\a:N.N>N").comes("\\x:(\\y:*.y)(N>N).(x)", 1, "\\a:N>N.a").comes("\\x:N.(\\y:N.(x))", 0, "\\a:N.\\b:N.a");
    }

    // ---- "S applied n times to 0 is n"

    private static void numbersAsWritten() {
        Sheet t = new Sheet();
        t.comes("0", 0, "0").comes("S 0", 0, "1").comes("S 8", 0, "9").comes("S 9", 0, "10").comes("S 19", 0, "20").comes("S 20", 0, "21").comes("S(S 20)", 0, "22");
        t.comes("S", 0, "S").comes("\\x:N.S x", 0, "\\a:N.S a").comes("\\f:N>N.S(f(S 0))", 0, "\\a:N>N.S (a 1)").comes("\\f:N>N.f(S(S 0))", 0, "\\a:N>N.a 2");
        t.comes(repeat("S(", 10) + "19" + repeat(")", 10), 0, "29").comes(repeat("S(", 10) + "20" + repeat(")", 10), 0, "30").comes(repeat("S(", 19) + "20" + repeat(")", 19), 0, "39");
        t.comes("(\\x:N.S(S x))18", 1, "20").comes("\\p:N>*.p 0>p(S 0)", 0, "\\a:N>*.a 0>a 1");
    }

    // ---- promise 1: "An empty LINE and OUTPUT, no NAMES told."

    private static void newObject() {
        Sheet t = new Sheet();
        due("place", t.it.place(), -1);
        due("state", t.state(), "line of 0, names 0, output , size 0");
        for (int k : new int[] {-1, 0, 1, 479, 480}) {
            due("output " + k, t.it.output(k), ' ');
        }
        due("erase", t.it.erase(), 0);
        for (int name = 0; name < 8; name++) {
            due("same", refusesSame(t.it, name, name), true);
        }
        due("place", t.it.place(), -1);
        due("define of nothing", t.it.define(0), SIGN);
        due("place", t.it.place(), 0);
        due("names", t.it.count(0), 0);
        Sheet u = new Sheet();
        t.tell("A", "0").typed("A", "N");
        due("state of another", u.state(), "line of 0, names 0, output , size 0");
        u.faulty("A", UNBOUND, 0);
    }

    // ---- promise 2: "Up to twenty characters more: four in each number, the highest byte first"

    private static void twentyCharacters() {
        // The same sign at each of the twenty places in turn, all others blank: its place tells the order.
        for (int place = 0; place < 20; place++) {
            int[] numbers = {0x20202020, 0x20202020, 0x20202020, 0x20202020, 0x20202020};
            int shift = 24 - 8 * (place % 4);
            numbers[place / 4] ^= ('x' ^ ' ') << shift;
            ProofLine x = new ProofLine();
            due("twenty", x.type(numbers[0], numbers[1], numbers[2], numbers[3], numbers[4]), 20);
            due("unbound", x.check(), UNBOUND);
            due("place", x.place(), place);
            due("twenty more", x.type(numbers[0], numbers[1], numbers[2], numbers[3], numbers[4]), 40);
            due("erase", x.erase(), 40);
        }
    }

    // ---- "a byte 0 is none. How many THE LINE has."

    private static void byteZeroIsNone() {
        for (int place = 0; place < 20; place++) {
            int[] numbers = new int[5];
            numbers[place / 4] = 'N' << 24 - 8 * (place % 4);
            ProofLine x = new ProofLine();
            due("one", x.type(numbers[0], numbers[1], numbers[2], numbers[3], numbers[4]), 1);
            due("none", x.type(0, 0, 0, 0, 0), 1);
            due("its type", x.check(), 1);
            due("first of two", x.type('(', 0, 0, 0, 0), 2);
            due("end", x.check(), SIGN);
            due("place of the end", x.place(), 2);
        }
        ProofLine x = new ProofLine();
        due("nineteen", x.type(0x20202020, 0x20202020, 0x20002020, 0x20202020, 0x20202020), 19);
        due("bytes from 1 to 255", x.type(0x01FF807F, 0, 0, 0, 0xFF000001), 25);
        due("sign", x.check(), SIGN);
        due("place", x.place(), 19);
    }

    // ---- "IllegalState: it would have more than 100."

    private static void moreThanAHundred() {
        for (int had = 80; had <= 100; had++) {
            Sheet t = new Sheet();
            t.line(repeat(" ", had - 1) + "x");
            due("x", t.it.check(), UNBOUND);
            for (int more = 0; more <= 20; more++) {
                int[] numbers = new int[5];
                for (int i = 0; i < more; i++) {
                    numbers[i / 4] |= ' ' << 24 - 8 * (i % 4);
                }
                boolean refused = refusesType(t.it, numbers[0], numbers[1], numbers[2], numbers[3], numbers[4]);
                due(more + " more than " + had, refused, had + more > 100);
                int has = t.it.type(0, 0, 0, 0, 0);
                due("has", has, refused ? had : had + more);
                if (!refused && more > 0) {
                    t.line(repeat(" ", had - 1) + "x");
                }
            }
            due("x is left", t.it.check(), UNBOUND);
            due("at its place", t.it.place(), had - 1);
        }
    }

    private static void moreOfEachByte() {
        ProofLine x = new ProofLine();
        for (int i = 0; i < 5; i++) {
            x.type(0x20202020, 0x20202020, 0x20202020, 0x20202020, 0x20202020);
        }
        for (int sign = 1; sign <= 255; sign++) {
            due("byte " + sign + " more than 100", refusesType(x, sign << 8 * (sign % 4)), true);
        }
        due("none more", refusesType(x, 0), false);
        due("hundred", x.erase(), 100);
    }

    // ---- promise 3: "THE LINE is empty: how many it had."

    private static void eraseEmptyAndFull() {
        Sheet t = new Sheet();
        due("nothing", t.it.erase(), 0);
        t.it.type('N', 0, 0, 0, 0);
        due("one", t.it.erase(), 1);
        due("none is left", t.it.erase(), 0);
        t.line(repeat("N>", 49) + " N");
        due("full", refusesType(t.it, 'N'), true);
        due("its type", t.it.check(), 1);
        due("hundred", t.it.erase(), 100);
        due("empty", t.it.check(), SIGN);
        due("its end", t.it.place(), 0);
        due("one more", t.it.type('S', 0, 0, 0, 0), 1);
        due("nothing of what was", t.it.check(), 3);
        due("output", t.out(), "N>N");
        t.it.erase();
        due("output stays", t.out(), "N>N");
        due("size stays", t.it.count(2), 3);
        t.tell("A", "0");
        t.it.erase();
        due("names stay", t.it.count(0), 1);
        t.comes("A", 1, "0");
    }

    // ---- promise 4: "A NAME, 0 .. 7 (A .. H)"; "IllegalArgument: there is no such NAME."

    private static void defineNoSuchName() {
        Sheet t = new Sheet();
        t.typed("S", "N>N").line("0 0");
        due("fault", t.it.check(), KIND);
        String before = t.state();
        for (int name : new int[] {-1, 8}) {
            due("define " + name, refusesDefine(t.it, name), true);
        }
        for (int name : FAR) {
            due("define " + name, refusesDefine(t.it, name), true);
        }
        due("place after what throws", t.it.place(), 0);
        due("state after what throws", t.state(), before);
        due("line after what throws", t.it.check(), KIND);
        t.line("5");
        due("define 8 of a good line", refusesDefine(t.it, 8), true);
        due("define -1 of a good line", refusesDefine(t.it, -1), true);
        due("names", t.it.count(0), 0);
        due("define 0", t.it.define(0), 0);
        due("define 7", t.it.define(7), 0);
        due("names", t.it.count(0), 2);
        due("define 8 with names told", refusesDefine(t.it, 8), true);
        t.comes("A", 1, "5").comes("H", 1, "5");
    }

    // ---- "TAKEN if it has one"

    private static void defineTaken() {
        for (int name : new int[] {0, 7}) {
            Sheet t = new Sheet();
            String sign = "" + (char) ('A' + name);
            t.tell(sign, "3").typed("S", "N>N");
            String before = t.state();
            due("taken", t.it.define(name), TAKEN);
            due("place", t.it.place(), -1);
            due("state", t.state(), before);
            for (String text : new String[] {"", "(", "x", "0 0", "*>0", "4"}) {
                t.line(text).it.check();
                due("taken with " + text, t.it.define(name), TAKEN);
                due("place with " + text, t.it.place(), -1);
            }
            t.comes(sign, 1, "3").typed(sign, "N").tell("D", "4").comes("D", 1, "4");
            due("names", t.it.count(0), 2);
        }
    }

    // ---- "(these two as THE LINE is read, the first that shows); then what is wrong with its type"

    private static void defineFirstThatShows() {
        Sheet t = new Sheet();
        t.faulty("x)", UNBOUND, 0).faulty(")x", SIGN, 0).faulty("x(", UNBOUND, 0).faulty("N x )", UNBOUND, 2).faulty("N ) x", SIGN, 2).faulty("A#", UNBOUND, 0).faulty("#A", SIGN, 0);
        t.faulty("x y", UNBOUND, 0).faulty("\\x:N.x y z", UNBOUND, 7).faulty("0 0(", SIGN, 4).faulty("0 0 x", UNBOUND, 4).faulty("0 0 21", SIGN, 5).faulty("0 0", KIND, 0);
        t.faulty("\\x:0.y", UNBOUND, 5).faulty("\\x:0.", SIGN, 5).faulty("21x", SIGN, 1).faulty("x21", UNBOUND, 0).faulty("I x", SIGN, 0).faulty("x I", UNBOUND, 0);
        t.line("A");
        due("a NAME has nothing while it is told", t.it.define(0), UNBOUND);
        due("names", t.it.count(0), 0);
    }

    // ---- promise 5: "(THE LINE stays, as by define and normal)"

    private static void lineStays() {
        Sheet t = new Sheet();
        t.line("(\\x:N.x)3");
        due("check", t.it.check(), 1);
        due("normal", t.it.normal(), 1);
        due("define", t.it.define(0), 0);
        due("check again", t.it.check(), 1);
        due("normal again", t.it.normal(), 1);
        due("same", t.it.same(0, 0), 1);
        due("line", t.it.type(0, 0, 0, 0, 0), 9);
        due("more of it", t.it.type(' ', 0, 0, '0', 0), 11);
        due("check of more", t.it.check(), KIND);
        due("place", t.it.place(), 0);
        due("line", t.it.erase(), 11);
    }

    // ---- promise 6: "how many STEPS"

    private static void normalAnswersSteps() {
        Sheet t = dear();
        t.comes("3", 0, "3").comes("(\\x:N.x)3", 1, "3").comes("A 3", 2, "3").comes("(\\x:N.x)E", 60, "3").faultyNormal("A E");
        t.comes("*", 0, "*").comes("N>N", 0, "N>N").faulty("0 0", KIND, 0).faulty("(\\x:N.0)(0 0)", KIND, 9).faulty("", SIGN, 0);
        // The type of the TERM is FUEL, the TERM is its own NORMAL FORM but for the NAMES in it: check alone is at fault.
        t.faultyCheck("\\p:N>*.\\x:p(A E).0");
    }

    // ---- promise 7: "IllegalArgument: there are no such NAMES, or they have nothing."

    private static void sameNoSuchNames() {
        Sheet t = new Sheet();
        t.tell("A", "0").tell("H", "0").typed("S", "N>N").line("S x");
        due("fault", t.it.check(), UNBOUND);
        String before = t.state();
        for (int name : new int[] {-1, 8, 1, 6}) {
            due("same " + name + " 0", refusesSame(t.it, name, 0), true);
            due("same 0 " + name, refusesSame(t.it, 0, name), true);
            due("same of both " + name, refusesSame(t.it, name, name), true);
        }
        for (int name : FAR) {
            due("same " + name + " 7", refusesSame(t.it, name, 7), true);
            due("same 7 " + name, refusesSame(t.it, 7, name), true);
        }
        due("place after what throws", t.it.place(), 2);
        due("state after what throws", t.state(), before);
        due("first and last", t.it.same(0, 7), 1);
        due("place", t.it.place(), -1);
        due("state", t.state(), before);
    }

    // ---- "1 or 0; or FUEL (at place 0)"

    private static void sameOrFuel() {
        Sheet t = dear();
        t.tell("F", "(\\x:N.x)(A(A(D 3)))").tell("G", "A(A(A((\\x:N.x)(D 3))))").tell("H", "3").typed("S", "N>N");
        String before = t.state();
        // From the TERMS of the NAMES, not the NAMES: E 58, F 59, G 61 STEPS.
        due("58", t.it.same(4, 7), 1);
        due("59", t.it.same(5, 7), 1);
        due("other", t.it.same(5, 0), 0);
        due("place", t.it.place(), -1);
        due("61", t.it.same(6, 7), FUEL);
        due("place", t.it.place(), 0);
        due("none", t.it.same(7, 7), 1);
        due("place", t.it.place(), -1);
        due("61, second", t.it.same(7, 6), FUEL);
        due("place", t.it.place(), 0);
        due("61, with itself", t.it.same(6, 6), FUEL);
        due("61, of another type", t.it.same(0, 6), FUEL);
        due("state", t.state(), before);
        Sheet u = dear();
        u.tell("F", "A(A(A(D 3)))").tell("G", "3");
        due("60", u.it.same(5, 6), 1);
        due("60, second", u.it.same(6, 5), 1);
        due("60, twice", u.it.same(5, 5), 1);
        Sheet v = new Sheet();
        v.tell("A", "\\f:N>N>N.f 20 14").tell("B", "\\f:N>N>N.f 20 15").tell("C", "\\f:N>N>N.f(S 19)(S 13)");
        due("size 79", v.it.same(0, 0), 1);
        due("size 79, twice", v.it.same(0, 2), 1);
        due("size 81", v.it.same(0, 1), FUEL);
        due("place", v.it.place(), 0);
        due("size 81, first", v.it.same(1, 0), FUEL);
    }

    // ---- promise 8: "NONE if the last define, check, normal, same had none, or there was none; NONE for TAKEN, too."

    private static void placeNone() {
        for (int way = 0; way < 5; way++) {
            Sheet t = new Sheet();
            due("none at first", t.it.place(), -1);
            t.tell("A", "0").line("S x");
            due("fault", t.it.normal(), UNBOUND);
            due("its place", t.it.place(), 2);
            // None of these is one of the four calls.
            t.line("S 0");
            t.out();
            t.it.count(3);
            due("its place", t.it.place(), 2);
            due("refused", refusesDefine(t.it, 8), true);
            due("refused", refusesSame(t.it, 0, 1), true);
            due("its place", t.it.place(), 2);
            int answer = way == 0 ? t.it.define(1) : way == 1 ? t.it.check() : way == 2 ? t.it.normal() : way == 3 ? t.it.same(0, 0) : t.it.define(0);
            due("answer of way " + way, answer, new int[] {0, 1, 0, 1, TAKEN}[way]);
            due("none after way " + way, t.it.place(), -1);
        }
    }

    // ---- "The place of the last fault"

    private static void placeFirstAndLast() {
        Sheet t = new Sheet();
        t.faulty("x", UNBOUND, 0).faulty("S x", UNBOUND, 2).faulty("S(", SIGN, 2).faulty("S( ", SIGN, 3).faulty("", SIGN, 0);
        t.faulty(repeat("N>", 49) + "Nx", UNBOUND, 99).faulty(repeat("N>", 49) + "N>", SIGN, 100).faulty(repeat("N>", 49) + "0 ", SORT, 98);
        t.faulty(repeat("N>", 49) + "S*", MISMATCH, 99).faulty(repeat("S(", 33) + "N" + repeat(")", 33), MISMATCH, 65);
    }

    // ---- promise 9: "a space if there is none such"

    private static void outputNoneSuch() {
        Sheet t = new Sheet();
        due("nothing yet", t.it.output(0), ' ');
        t.typed("R", "!a:N>*.a 0>(!c:N.a c>a (S c))>!d:N.a d");
        int last = t.it.count(1) - 1;
        due("first", t.it.output(0), '!');
        due("last", t.it.output(last), 'd');
        due("before the last, a space of its own", t.it.output(last - 1), ' ');
        due("behind the last", t.it.output(last + 1), ' ');
        t.typed("0", "N");
        due("the only one", t.it.output(0), 'N');
        // A shorter OUTPUT leaves nothing of the longer one.
        for (int k = 1; k <= last + 2; k++) {
            due("character " + k, t.it.output(k), ' ');
        }
        due("before the first", t.it.output(-1), ' ');
        for (int k : FAR) {
            due("character " + k, t.it.output(k), ' ');
        }
    }

    // ---- promise 10: "0 NAMES ..., 1 characters ..., 2 the SIZE ... (0 at first); NONE for another what"

    private static void countAnother() {
        Sheet t = new Sheet();
        for (int what = 0; what <= 2; what++) {
            due("count " + what + " at first", t.it.count(what), 0);
        }
        t.tell("A", "0");
        due("names", t.it.count(0), 1);
        due("define writes nothing", t.it.count(1), 0);
        due("define writes nothing", t.it.count(2), 0);
        t.comes("20", 0, "20");
        due("characters", t.it.count(1), 2);
        due("size", t.it.count(2), 41);
        t.typed("20", "N");
        due("characters", t.it.count(1), 1);
        due("size", t.it.count(2), 1);
        due("-1", t.it.count(-1), -1);
        due("3", t.it.count(3), -1);
        for (int what : FAR) {
            due("count " + what, t.it.count(what), -1);
        }
        for (int name = 1; name < 8; name++) {
            due("define", t.it.define(name), 0);
        }
        due("all names", t.it.count(0), 8);
        due("taken", t.it.define(0), TAKEN);
        due("still all", t.it.count(0), 8);
    }

    // ---- "What throws changes nothing"

    private static void whatThrowsChangesNothing() {
        Sheet t = new Sheet();
        t.tell("A", "3").typed("S", "N>N").line(repeat(" ", 96) + "S x ");
        due("fault", t.it.check(), UNBOUND);
        String before = t.state();
        due("type", refusesType(t.it, 'N'), true);
        due("type of which a part would fit", refusesType(t.it, 0, 0, 0, 0, 0x4E000000), true);
        due("define", refusesDefine(t.it, -1), true);
        due("define", refusesDefine(t.it, 8), true);
        due("same", refusesSame(t.it, 0, 1), true);
        due("same", refusesSame(t.it, 8, 0), true);
        due("place", t.it.place(), 98);
        due("state", t.state(), before);
        due("line", t.it.check(), UNBOUND);
        due("place", t.it.place(), 98);
        t.comes("A", 1, "3").line(repeat(" ", 97) + "S");
        due("three where two fit", refusesType(t.it, 0x30303000), true);
        due("none of the three", t.it.check(), 3);
        due("two", t.it.type(0x20300000, 0, 0, 0, 0), 100);
        due("both", t.it.check(), 1);
    }

    // ---- "a call that answers a fault changes nothing but place"

    private static void faultsChangeNothingButPlace() {
        Sheet t = dear();
        t.tell("G", "A E").comes("S 4", 0, "5");
        String[] lines = {"", "S(", "x", "F", "0>N", "\\x:N.*", "0 0", "S N", "21"};
        int[] faults = {SIGN, SIGN, UNBOUND, UNBOUND, SORT, SORT, KIND, MISMATCH, SIGN};
        int[] places = {0, 2, 0, 0, 0, 5, 0, 2, 1};
        for (int i = 0; i < lines.length; i++) {
            t.faulty(lines[i], faults[i], places[i]);
            due("output", t.out(), "5");
            due("size", t.it.count(2), 11);
            due("names", t.it.count(0), 6);
        }
        t.faultyNormal("A E").faultyCheck("\\p:N>*.\\x:p(A E).0");
        due("same", t.it.same(6, 6), FUEL);
        due("taken", t.it.define(6), TAKEN);
        due("output", t.out(), "5");
        due("size", t.it.count(2), 11);
        due("names", t.it.count(0), 6);
        due("line", t.it.erase(), 18);
        t.comes("A 3", 2, "3").tell("F", "4").comes("F", 1, "4");
    }
}
