/** Each promise by hand: ordinary inputs, the edges that the document names, wrong inputs. */
public final class PromisesTest {
    private static final int NONE = VersionSearch.NONE;
    private static final int A = Due.word("a");
    private static final int B = Due.word("b");
    private static final int C = Due.word("c");
    private static final int D = Due.word("d");

    /** Dates 0 .. 5; rows of document 0: abac, adbac, adb, abac, of document 1: bc, cb. */
    private static final String ARCHIVE = "doc a b a c;doc b c;put 0 1 d;cut 0 3 2;back 0 0;move 1 0 1;";
    private static final String QUESTIONS = "phrase a c;near a c 2;many a 2;not 0;ever 0;new 1;and 1 3;or 0 2;";

    private PromisesTest() {
    }

    public static void main(String[] args) {
        newObject();
        feedAndEnd();
        textNumbers();
        textTokens();
        faultsOfArchives();
        faultsOfQuestions();
        faultsOfHunts();
        faultOrder();
        faultPlaces();
        archive();
        passages();
        returnsAndTwins();
        version();
        turnedAndOldest();
        life();
        word();
        dated();
        shared();
        common();
        question();
        holds();
        holdsOfEachKind();
        spans();
        times();
        found();
        ranks();
        best();
        implies();
        fact();
        fits();
        drawn();
        drawnEdges();
        count();
        images();
        Due.finish("PromisesTest");
    }

    private static void newObject() {
        VersionSearch x = new VersionSearch();
        Due.is("NONE", NONE, -1);
        for (int sort = 0; sort < 3; sort++) {
            Due.is("new count", x.count(sort), 0);
            Due.is("new again", x.again(sort), false);
        }
        Due.is("new fault", x.fault(0), 0);
        Due.is("new fault's place", x.fault(1), NONE);
        Due.is("new tape", x.end(1), NONE);
        Due.is("new archive", x.archive(0, 0), -2);
        Due.is("new question", x.question(0, NONE, 0), -2);
        Due.is("new fact", x.fact(0, NONE, 0), -2);
    }

    private static void feedAndEnd() {
        VersionSearch x = new VersionSearch();
        for (int i = 1; i <= 30; i++) {
            Due.is("feed " + i, x.feed(0, 0, 0, 0, 0), 20 * i);
        }
        Due.is("feed beyond 600", x.feed(0, 0, 0, 0, 0), NONE);
        Due.is("end(600)", x.end(600), 600);
        Due.is("end(601)", x.end(601), NONE);
        Due.is("end(-1)", x.end(-1), NONE);
        Due.is("end(least)", x.end(Integer.MIN_VALUE), NONE);
        Due.is("end(581)", x.end(581), 581);
        Due.is("feed at 581", x.feed(0, 0, 0, 0, 0), NONE);
        Due.is("end(580)", x.end(580), 580);
        Due.is("feed at 580", x.feed(0, 0, 0, 0, 0), 600);
        Due.is("end(0)", x.end(0), 0);
        Due.is("end(1)", x.end(1), NONE);
        Due.is("highest first", x.feed(0x646f6320, 0x61203b0a, 0x646f633b, 0x20202020, 0x0a0a0a0a), 20);
        Due.is("text by bytes", x.text(0, NONE), 0);
        Due.is("its documents", x.archive(0, 0), 2);
        x.feed(0x646f6380, 0, 0, 0, 0);
        Due.is("byte 128", x.text(0, NONE), NONE);
        Due.is("byte 128's place", x.fault(1), 3);
    }

    private static void textNumbers() {
        VersionSearch x = new VersionSearch();
        Due.is("further archive", Due.text(x, 0, NONE, "doc a;"), 0);
        Due.is("none such", Due.text(x, 0, 1, "doc a;"), -2);
        Due.is("tape is empty", x.end(1), NONE);
        Due.is("in the place of one", Due.text(x, 0, 0, "doc b;doc;"), 0);
        Due.is("documents of it", x.archive(0, 0), 2);
        Due.is("fault", Due.text(x, 0, 0, "dox;"), NONE);
        Due.is("a fault changes nothing", x.archive(0, 0), 2);
        Due.is("fault is told", x.fault(0), 1);
        Due.is("no such place", Due.text(x, 0, -2, "dox;"), -2);
        Due.is("no text is read", x.fault(0), 0);
        Due.is("no place of a fault", x.fault(1), NONE);
        Due.is("second archive", Due.text(x, 0, NONE, "doc;doc;doc;"), 1);
        Due.is("no third", Due.text(x, 0, NONE, "doc;"), -2);
        Due.is("tape is empty behind that", x.end(1), NONE);
        Due.is("in the place of the second", Due.text(x, 0, 1, ""), 1);
        Due.is("an empty text", x.archive(1, 0), 0);
        Due.is("first stays", x.archive(0, 0), 2);
        Due.is("no sort 3", Due.text(x, 3, NONE, "doc;"), -2);
        Due.is("no sort -1", Due.text(x, -1, NONE, "doc;"), -2);
        Due.is("tape is empty behind no sort", x.end(1), NONE);
        Due.is("questions", Due.text(x, 1, NONE, "phrase a;"), 0);
        Due.is("more questions", Due.text(x, 1, NONE, "many a 1;not 0;"), 1);
        Due.is("no third of questions", Due.text(x, 1, NONE, ""), -2);
        Due.is("hunt", Due.text(x, 2, NONE, "in 0 0;"), 0);
        Due.is("second hunt", Due.text(x, 2, NONE, ""), 1);
        Due.is("no third hunt", Due.text(x, 2, NONE, ""), -2);
        Due.is("hunt in place", Due.text(x, 2, 1, "out 3 9;out 0 0;"), 1);
        Due.is("its facts", x.fact(1, NONE, 0), 2);
        Due.is("another what of fault", x.fault(2), NONE);
        Due.is("what -1 of fault", x.fault(-1), NONE);
    }

    private static void textTokens() {
        Due.faultIs(0, "doc a b;put 0 1 c;", 0, NONE);
        Due.faultIs(0, "\n doc\na ;\n\n", 0, NONE);
        Due.faultIs(0, "doc;put0 0a;", 0, NONE);
        Due.faultIs(0, "doc doc put;", 0, NONE);
        Due.faultIs(0, "doc a b c;put 00 03;", 0, NONE);
        Due.faultIs(0, "   ", 0, NONE);
        Due.faultIs(0, "\tdoc;", 1, 0);
        Due.faultIs(0, "doc A;", 1, 4);
        Due.faultIs(0, "doc;doca;", 1, 4);
        Due.faultIs(0, ";", 1, 0);
        Due.faultIs(0, "doc;;", 1, 4);
        Due.faultIs(0, "doc 1;", 1, 4);
        Due.faultIs(0, "phrase a;", 1, 0);
        Due.faultIs(0, "doc;put 0 000;", 1, 10);
        Due.faultIs(0, "doc;put 100 0;", 1, 8);
        Due.faultIs(0, "doc;put 0 a;", 1, 10);
        Due.faultIs(0, "doc;put 0 0 0;", 1, 12);
        Due.faultIs(0, "doc;cut 0 0;", 1, 11);
        Due.faultIs(0, "doc;move 0 0;", 1, 12);
        Due.faultIs(0, "doc;back 0 0 0;", 1, 13);
        Due.faultIs(0, "doc", 1, 3);
        Due.faultIs(0, "doc a  ", 1, 7);
        Due.faultIs(0, "doc;put", 1, 7);
        Due.faultIs(0, "doc;put 0", 1, 9);
        Due.faultIs(1, "phrase;", 1, 6);
        Due.faultIs(1, "phrase ", 1, 7);
        Due.faultIs(1, "phrase 1;", 1, 7);
        Due.faultIs(1, "near a 1;", 1, 7);
        Due.faultIs(1, "near a b;", 1, 8);
        Due.faultIs(1, "near a b 1 2;", 1, 11);
        Due.faultIs(1, "many a;", 1, 6);
        Due.faultIs(1, "many 1;", 1, 5);
        Due.faultIs(1, "phrase a;not a;", 1, 13);
        Due.faultIs(1, "phrase a;and 0;", 1, 14);
        Due.faultIs(1, "in 0 0;", 1, 0);
        Due.faultIs(2, "in 0;", 1, 4);
        Due.faultIs(2, "out 0 0 0;", 1, 8);
        Due.faultIs(2, "doc;", 1, 0);
    }

    private static void faultsOfArchives() {
        Due.faultIs(0, "doc abcd;", 0, NONE);
        Due.faultIs(0, "doc abcde;", 2, 4);
        Due.faultIs(0, "doc a;put 0 0 abcde;", 2, 14);
        Due.faultIs(0, "doc;put 4 0;", 2, 8);
        Due.faultIs(0, "doc;cut 4 0 1;", 2, 8);
        Due.faultIs(0, "doc;move 4 0 0;", 2, 9);
        Due.faultIs(0, "doc;cut 3 19 20;", 4, 4);
        Due.faultIs(0, "doc;move 3 19 19;", 4, 4);
        Due.faultIs(0, "doc;put 3 20;", 4, 4);
        Due.faultIs(0, "doc;back 3 9;", 4, 4);
        Due.faultIs(0, "doc;put 0 21;", 2, 10);
        Due.faultIs(0, "doc a;cut 0 20 1;", 2, 12);
        Due.faultIs(0, "doc a;cut 0 0 0;", 2, 14);
        Due.faultIs(0, "doc a;cut 0 0 21;", 2, 14);
        Due.faultIs(0, "doc a;cut 0 0 20;", 4, 6);
        Due.faultIs(0, "doc a;move 0 20 0;", 2, 13);
        Due.faultIs(0, "doc a;move 0 0 20;", 2, 15);
        Due.faultIs(0, "doc a;back 0 10;", 2, 13);
        Due.faultIs(0, "doc a;back 4 0;", 2, 11);
        Due.faultIs(0, "doc;doc;doc;doc;", 0, NONE);
        Due.faultIs(0, "doc;doc;doc;doc;doc;", 3, 16);
        String ten = "doc;put0 0;put0 0;put0 0;put0 0;put0 0;put0 0;put0 0;put0 0;put0 0;";
        Due.faultIs(0, ten, 0, NONE);
        Due.faultIs(0, ten + "put 0 0;", 3, ten.length());
        Due.faultIs(0, ten + "back 0 0;", 3, ten.length());
        Due.faultIs(0, ten + "cut 0 0 1;", 3, ten.length());
        Due.faultIs(0, ten + "doc;put 1 0 a;", 0, NONE);
        String twenty = "doc a a a a a a a a a a a a a a a a a a a a";
        Due.faultIs(0, twenty + ";", 0, NONE);
        Due.faultIs(0, twenty + " a;", 3, twenty.length() + 1);
        Due.faultIs(0, twenty + ";put 0 20;", 0, NONE);
        Due.faultIs(0, twenty + ";put 0 20 a;", 3, twenty.length() + 10);
        Due.faultIs(0, twenty + ";cut 0 19 1;put 0 0 a;", 0, NONE);
        Due.faultIs(0, twenty + ";cut 0 19 1;put 0 0 a b;", 3, twenty.length() + 22);
        Due.faultIs(0, "put 0 0;", 4, 0);
        Due.faultIs(0, "doc a;put 0 1 b;", 0, NONE);
        Due.faultIs(0, "doc a;put 0 2 b;", 4, 6);
        Due.faultIs(0, "doc a b;cut 0 0 2;", 0, NONE);
        Due.faultIs(0, "doc a b;cut 0 1 2;", 4, 8);
        Due.faultIs(0, "doc a b;cut 0 2 1;", 4, 8);
        Due.faultIs(0, "doc a;move 0 0 0;", 0, NONE);
        Due.faultIs(0, "doc a;move 0 0 1;", 4, 6);
        Due.faultIs(0, "doc a;move 0 1 0;", 4, 6);
        Due.faultIs(0, "doc a b;move 0 0 1;", 0, NONE);
        Due.faultIs(0, "doc a b;move 0 0 2;", 4, 8);
        Due.faultIs(0, "doc;move 0 0 0;", 4, 4);
        Due.faultIs(0, "doc;back 0 0;", 0, NONE);
        Due.faultIs(0, "doc;back 0 1;", 4, 4);
        Due.faultIs(0, "doc;back 1 0;", 4, 4);
    }

    private static void faultsOfQuestions() {
        Due.faultIs(1, "phrase a b c d;", 0, NONE);
        Due.faultIs(1, "phrase a b c d e;", 3, 15);
        Due.faultIs(1, "phrase a b c d abcde;", 2, 15);
        Due.faultIs(1, "phrase a b c abcde e;", 2, 13);
        Due.faultIs(1, "near a b 1;near a b 9;", 0, NONE);
        Due.faultIs(1, "near a b 0;", 2, 9);
        Due.faultIs(1, "near a b 10;", 2, 9);
        Due.faultIs(1, "near a abcde 0;", 2, 7);
        Due.faultIs(1, "many a 0;", 2, 7);
        Due.faultIs(1, "many a 10;", 2, 7);
        Due.faultIs(1, "many a 9;", 0, NONE);
        Due.faultIs(1, "not 0;", 2, 4);
        Due.faultIs(1, "phrase a;not 0;", 0, NONE);
        Due.faultIs(1, "phrase a;not 1;", 2, 13);
        Due.faultIs(1, "phrase a;not 8;", 2, 13);
        Due.faultIs(1, "phrase a;ever 1;", 2, 14);
        Due.faultIs(1, "phrase a;new 1;", 2, 13);
        Due.faultIs(1, "phrase a;and 0 0;", 0, NONE);
        Due.faultIs(1, "phrase a;and 0 1;", 2, 15);
        Due.faultIs(1, "phrase a;or 1 0;", 2, 12);
        String eight = "many a 1;not 0;not 1;not 2;not 3;not 4;not 5;and 6 6;";
        Due.faultIs(1, eight, 0, NONE);
        Due.faultIs(1, eight + "not 7;", 3, eight.length());
        Due.faultIs(1, eight + "not 8;", 3, eight.length());
    }

    private static void faultsOfHunts() {
        Due.faultIs(2, "in 3 9;out 3 9;", 0, NONE);
        Due.faultIs(2, "in 4 0;", 2, 3);
        Due.faultIs(2, "out 4 0;", 2, 4);
        Due.faultIs(2, "in 0 10;", 2, 5);
        Due.faultIs(2, "out 0 10;", 2, 6);
        String eight = "in0 0;in0 0;in0 0;in0 0;in0 0;in0 0;in0 0;in0 0;";
        Due.faultIs(2, eight, 0, NONE);
        Due.faultIs(2, eight + "in 0 0;", 3, eight.length());
        Due.faultIs(2, eight + "in 9 0;", 3, eight.length());
    }

    private static void faultOrder() {
        Due.faultIs(0, "doc abcde;put 0 0;#", 1, 18);
        Due.faultIs(0, "put 0 0;doc", 1, 11);
        Due.faultIs(0, "put 0 0;doc abcde;", 4, 0);
        Due.faultIs(0, "put 0 0 abcde;", 2, 8);
        Due.faultIs(0, "put 0 21 abcde;", 2, 6);
        Due.faultIs(0, "doc;doc;doc;doc;doc abcde;", 3, 16);
        String ten = "doc;put0 0;put0 0;put0 0;put0 0;put0 0;put0 0;put0 0;put0 0;put0 0;";
        Due.faultIs(0, ten + "put 0 5;", 3, ten.length());
        Due.faultIs(0, ten + "put 0 21;", 2, ten.length() + 6);
        Due.faultIs(0, ten + "put 0 0 abcde;", 2, ten.length() + 8);
        String words = " a a a a a a a a a a a a a a a a a a a a";
        Due.faultIs(0, "doc" + words + " abcde;", 2, 44);
        Due.faultIs(0, "doc" + words + " a abcde;", 3, 44);
        Due.faultIs(0, "put 0 0" + words + " a abcde;", 3, 48);
        Due.faultIs(0, "put 0 0" + words + " a;", 4, 0);
        Due.faultIs(0, "doc a;put 0 0" + words + " abcde;", 3, 6 + 7 + 39);
        Due.faultIs(0, "doc a;put 0 2" + words + ";", 4, 6);
    }

    private static void faultPlaces() {
        VersionSearch x = new VersionSearch();
        Due.text(x, 0, NONE, "doc abcde;");
        Due.is("fault", x.fault(0), 2);
        Due.text(x, 0, NONE, "doc;");
        Due.is("fault behind a text without", x.fault(0), 0);
        Due.is("place behind a text without", x.fault(1), NONE);
        Due.tape(x, "doc abc;");
        x.end(6);
        Due.is("bytes behind the end do not count", x.text(0, NONE), NONE);
        Due.is("the end's place", x.fault(1), 6);
        Due.tape(x, "in 0 12;");
        x.end(6);
        Due.is("digits behind the end do not count", x.text(2, NONE), NONE);
        Due.is("the end's place behind a digit", x.fault(1), 6);
        x.feed(1, 2, 3, 4, 5);
        x.text(1, NONE);
        Due.is("fault of bytes", x.fault(0), 1);
        Due.is("place of bytes", x.fault(1), 0);
    }

    private static void archive() {
        VersionSearch x = Due.with(ARCHIVE, "", "");
        Due.is("DOCUMENTS", x.archive(0, 0), 2);
        Due.is("VERSIONS", x.archive(0, 1), 6);
        Due.is("SIZE", x.archive(0, 2), 4 + 5 + 3 + 4 + 2 + 2);
        Due.is("TOKENS", x.archive(0, 3), 7);
        Due.is("POSTINGS", x.archive(0, 4), 1 + 1 + 2 + 2 + 1 + 1 + 1);
        Due.is("LONGEST", x.archive(0, 5), 0);
        Due.is("TWINS", x.archive(0, 6), 1);
        Due.is("WORDS", x.archive(0, 7), 4);
        Due.is("what 8", x.archive(0, 8), -2);
        Due.is("what 9", x.archive(0, 9), -2);
        Due.is("what -1", x.archive(0, -1), -2);
        Due.is("VERSIONS of 0", x.archive(0, 10), 4);
        Due.is("VERSIONS of 1", x.archive(0, 11), 2);
        Due.is("VERSIONS of 2", x.archive(0, 12), -2);
        Due.is("PASSAGES of 0", x.archive(0, 20), 4);
        Due.is("PASSAGES of 1", x.archive(0, 21), 2);
        Due.is("PASSAGES of 2", x.archive(0, 22), -2);
        Due.is("longest of 0", x.archive(0, 30), 2);
        Due.is("longest of 1", x.archive(0, 31), 1);
        Due.is("KEPT of 0", x.archive(0, 40), 2);
        Due.is("KEPT of 1", x.archive(0, 41), 2);
        Due.is("RETURNS of 0", x.archive(0, 50), 1);
        Due.is("RETURNS of 1", x.archive(0, 51), 0);
        Due.is("what 60", x.archive(0, 60), -2);
        Due.is("none such", x.archive(1, 0), -2);
        Due.is("archive -1", x.archive(-1, 0), -2);
        Due.text(x, 0, NONE, "");
        Due.is("SIZE of nothing", x.archive(1, 2), 0);
        Due.is("LONGEST of nothing", x.archive(1, 5), NONE);
        Due.is("document of nothing", x.archive(1, 10), -2);
        Due.text(x, 0, 1, "doc;doc a;doc b;");
        Due.is("LONGEST, several", x.archive(1, 5), 1);
        Due.is("no TOKENS: PASSAGES", x.archive(1, 20), 0);
        Due.is("no TOKENS: longest", x.archive(1, 30), 0);
        Due.is("no TOKENS: KEPT", x.archive(1, 40), 0);
    }

    private static void passages() {
        VersionSearch x = Due.with("doc a b c d;", "", "");
        Due.is("one version", x.archive(0, 20), 1);
        Due.is("one version, longest", x.archive(0, 30), 4);
        Due.text(x, 0, 0, "doc a b c d;move 0 0 1;");
        Due.is("turned ones are of two", x.archive(0, 20), 3);
        Due.is("c d", x.archive(0, 30), 2);
        Due.text(x, 0, 0, "doc a b c d;cut 0 1 1;back 0 0;");
        Due.is("a, b, cd", x.archive(0, 20), 3);
        Due.text(x, 0, 0, "doc a b c d;cut 0 0 2;back 0 0;put 0 2 x;back 0 2;");
        Due.is("ab, cd, x", x.archive(0, 20), 3);
        Due.is("longest ab", x.archive(0, 30), 2);
        Due.text(x, 0, 0, "doc a b;put 0 1 x y z;cut 0 0 5;");
        Due.is("a, b, xyz", x.archive(0, 20), 3);
        Due.is("longest xyz", x.archive(0, 30), 3);
    }

    private static void returnsAndTwins() {
        VersionSearch x = Due.with("doc a b;back 0 0;put 0 0 c;back 0 0;back 0 2;back 0 2;", "", "");
        Due.is("RETURNS", x.archive(0, 50), 2);
        Due.is("TWINS", x.archive(0, 6), 3 + 3);
        Due.text(x, 0, 0, "doc a;doc a;put 1 0 b;cut 1 0 1;cut 0 0 1;doc;");
        Due.is("TWINS of several documents", x.archive(0, 6), 3 + 1);
        Due.is("RETURNS by words", x.archive(0, 51), 1);
        Due.text(x, 0, 0, "doc a a;move 0 0 1;cut 0 0 1;put 0 0 a;");
        Due.is("RETURNS by other tokens", x.archive(0, 50), 1);
    }

    private static void version() {
        VersionSearch x = Due.with(ARCHIVE, "", "");
        Due.is("WORDS", x.version(0, 0, 0, 0), 4);
        Due.is("WORDS of the cut one", x.version(0, 0, 2, 0), 3);
        Due.is("DATE", x.version(0, 0, 1, 1), 2);
        Due.is("DATE of 1 0", x.version(0, 1, 0, 1), 1);
        Due.is("FRESH of version 0", x.version(0, 0, 0, 2), 4);
        Due.is("FRESH by put", x.version(0, 0, 1, 2), 1);
        Due.is("FRESH of what is back", x.version(0, 0, 3, 2), 0);
        Due.is("LOST of version 0", x.version(0, 0, 0, 3), 0);
        Due.is("LOST by cut", x.version(0, 0, 2, 3), 2);
        Due.is("LOST by back", x.version(0, 0, 3, 3), 1);
        Due.is("LOST by put", x.version(0, 0, 1, 3), 0);
        Due.is("TURNED of version 0", x.version(0, 1, 0, 4), 0);
        Due.is("TURNED by move", x.version(0, 1, 1, 4), 1);
        Due.is("OLDEST", x.version(0, 0, 1, 5), 0);
        Due.is("place 0", x.version(0, 0, 1, 10), A);
        Due.is("place 1", x.version(0, 0, 1, 11), D);
        Due.is("place 4", x.version(0, 0, 1, 14), C);
        Due.is("place 5", x.version(0, 0, 1, 15), NONE);
        Due.is("moved", x.version(0, 1, 1, 10), C);
        Due.is("moved behind", x.version(0, 1, 1, 11), B);
        Due.is("what 6", x.version(0, 0, 0, 6), NONE);
        Due.is("what 9", x.version(0, 0, 0, 9), NONE);
        Due.is("what -1", x.version(0, 0, 0, -1), NONE);
        Due.is("no version", x.version(0, 0, 4, 0), NONE);
        Due.is("version -1", x.version(0, 0, -1, 0), NONE);
        Due.is("no document", x.version(0, 2, 0, 0), NONE);
        Due.is("no archive", x.version(1, 0, 0, 0), NONE);
        Due.text(x, 0, 0, "doc abcd zz;doc;");
        Due.is("four letters", x.version(0, 0, 0, 10), ((1 * 27 + 2) * 27 + 3) * 27 + 4);
        Due.is("two letters", x.version(0, 0, 0, 11), 26 * 27 + 26);
        Due.is("OLDEST of none", x.version(0, 1, 0, 5), NONE);
        Due.text(x, 0, 0, "doc;doc a b c;cut 1 0 2;doc a b;cut 2 1 1;");
        Due.is("LOST of version 1", x.version(0, 1, 1, 3), 2);
        Due.is("LOST of a later document's version 0", x.version(0, 1, 0, 3), 0);
        Due.is("LOST of document 2", x.version(0, 2, 1, 3), 1);
    }

    private static void turnedAndOldest() {
        VersionSearch x = Due.with("doc a b c d;move 0 3 0;move 0 0 2;put 0 0 e;cut 0 0 1;put 0 0 f;back 0 3;", "", "");
        Due.is("TURNED d to the front", x.version(0, 0, 1, 4), 3);
        Due.is("TURNED d two on", x.version(0, 0, 2, 4), 2);
        Due.is("TURNED by put", x.version(0, 0, 3, 4), 0);
        Due.is("OLDEST behind the new one", x.version(0, 0, 3, 5), 1);
        Due.is("OLDEST up to it alone", x.version(0, 0, 6, 5), 1);
        Due.is("e is there", x.life(0, 0, 6, 0, 2), 2);
    }

    private static void life() {
        VersionSearch x = Due.with(ARCHIVE, "", "");
        Due.is("first", x.life(0, 0, 3, 3, 0), 0);
        Due.is("last", x.life(0, 0, 0, 3, 1), 3);
        Due.is("how many", x.life(0, 0, 0, 3, 2), 3);
        Due.is("rows", x.life(0, 0, 0, 3, 3), 2);
        Due.is("d's first", x.life(0, 0, 1, 1, 0), 1);
        Due.is("d's last", x.life(0, 0, 1, 1, 1), 2);
        Due.is("d's rows", x.life(0, 0, 1, 1, 3), 1);
        Due.is("what 4", x.life(0, 0, 1, 1, 4), NONE);
        Due.is("what -1", x.life(0, 0, 1, 1, -1), NONE);
        Due.is("no place", x.life(0, 0, 0, 4, 0), NONE);
        Due.is("place -1", x.life(0, 0, 0, -1, 0), NONE);
        Due.is("no version", x.life(0, 1, 2, 0, 0), NONE);
        Due.is("no document", x.life(0, 3, 0, 0, 0), NONE);
        Due.is("no archive", x.life(1, 0, 0, 0, 0), NONE);
    }

    private static void word() {
        VersionSearch x = Due.with("doc b ab a;doc b b abc;put 0 0 z b;cut 1 0 1;", "", "");
        int[] order = {A, Due.word("ab"), Due.word("abc"), B, Due.word("z")};
        for (int k = 0; k < order.length; k++) {
            Due.is("word " + k, x.word(0, k, 0), order[k]);
        }
        Due.is("no word 5", x.word(0, 5, 0), NONE);
        Due.is("no word -1", x.word(0, -1, 0), NONE);
        Due.is("versions of b", x.word(0, 3, 1), 4);
        Due.is("versions of z", x.word(0, 4, 1), 1);
        Due.is("documents of b", x.word(0, 3, 2), 3);
        Due.is("documents of abc", x.word(0, 2, 2), 2);
        Due.is("first date of b", x.word(0, 3, 3), 0);
        Due.is("first date of abc", x.word(0, 2, 3), 1);
        Due.is("first date of z", x.word(0, 4, 3), 2);
        Due.is("SPREAD of b", x.word(0, 3, 4), 2);
        Due.is("SPREAD of a", x.word(0, 0, 4), 1);
        Due.is("what 5", x.word(0, 0, 5), NONE);
        Due.is("what -1", x.word(0, 0, -1), NONE);
        Due.is("no archive", x.word(1, 0, 0), NONE);
        Due.text(x, 0, 0, "doc;doc b;put 0 0 a b;");
        Due.is("date of the second document's", x.word(0, 1, 3), 1);
    }

    private static void dated() {
        VersionSearch x = Due.with(ARCHIVE, "", "");
        int[] documents = {0, 1, 0, 0, 0, 1};
        for (int date = 0; date < documents.length; date++) {
            Due.is("DATED " + date, x.dated(0, date), documents[date]);
        }
        Due.is("DATED 6", x.dated(0, 6), NONE);
        Due.is("DATED -1", x.dated(0, -1), NONE);
        Due.is("DATED of none", x.dated(1, 0), NONE);
    }

    private static void shared() {
        VersionSearch x = Due.with(ARCHIVE, "", "");
        Due.is("SHARED 0 1", x.shared(0, 0, 0, 1), 4);
        Due.is("SHARED 2 3", x.shared(0, 0, 2, 3), 2);
        Due.is("SHARED 1 1", x.shared(0, 0, 1, 1), 5);
        Due.is("SHARED 1 2", x.shared(0, 0, 1, 2), 3);
        Due.is("no version a", x.shared(0, 0, 4, 0), NONE);
        Due.is("no version b", x.shared(0, 0, 0, -1), NONE);
        Due.is("no document", x.shared(0, 2, 0, 0), NONE);
        Due.is("no archive", x.shared(1, 0, 0, 0), NONE);
        Due.text(x, 0, 0, "doc a;cut 0 0 1;put 0 0 a;");
        Due.is("another token of the word", x.shared(0, 0, 0, 2), 0);
    }

    private static void common() {
        VersionSearch x = Due.with(ARCHIVE, "", "");
        Due.is("COMMON of abac, bc", x.common(0, 0, 0, 1, 0), 2);
        Due.is("COMMON of abac, cb", x.common(0, 0, 0, 1, 1), 1);
        Due.is("COMMON of adbac, abac", x.common(0, 0, 1, 0, 0), 4);
        Due.is("COMMON of itself", x.common(0, 0, 1, 0, 1), 5);
        Due.is("no version v", x.common(0, 0, 4, 1, 0), NONE);
        Due.is("no version w", x.common(0, 0, 0, 1, 2), NONE);
        Due.is("no document", x.common(0, 0, 0, 2, 0), NONE);
        Due.is("no archive", x.common(1, 0, 0, 0, 0), NONE);
        Due.text(x, 0, 0, "doc a b c b d a b;doc b d c a b a;doc;");
        Due.is("COMMON of abcbdab, bdcaba", x.common(0, 0, 0, 1, 0), 4);
        Due.is("COMMON with none", x.common(0, 0, 0, 2, 0), 0);
        Due.text(x, 0, 0, "doc a b c d e f g h i j k l m n o p q r s t;");
        Due.is("COMMON of twenty", x.common(0, 0, 0, 0, 0), 20);
    }

    private static void question() {
        VersionSearch x = Due.with("", QUESTIONS, "");
        Due.is("how many", x.question(0, NONE, 0), 8);
        Due.is("NONE, what 1", x.question(0, NONE, 1), -2);
        int[][] rows = {{0, 2, NONE}, {1, 2, NONE}, {2, 2, NONE}, {3, 0, NONE}, {4, 0, NONE}, {5, 1, NONE}, {6, 1, 3}, {7, 0, 2}};
        for (int k = 0; k < rows.length; k++) {
            for (int what = 0; what < 3; what++) {
                Due.is("question " + k + " " + what, x.question(0, k, what), rows[k][what]);
            }
            Due.is("what 3", x.question(0, k, 3), -2);
            Due.is("what 9", x.question(0, k, 9), -2);
            Due.is("what -1", x.question(0, k, -1), -2);
        }
        Due.is("phrase word 0", x.question(0, 0, 10), A);
        Due.is("phrase word 1", x.question(0, 0, 11), C);
        Due.is("phrase word 2", x.question(0, 0, 12), -2);
        Due.is("near word 1", x.question(0, 1, 11), C);
        Due.is("near word 2", x.question(0, 1, 12), -2);
        Due.is("many word 0", x.question(0, 2, 10), A);
        Due.is("many word 1", x.question(0, 2, 11), -2);
        Due.is("not word 0", x.question(0, 3, 10), -2);
        Due.is("question 8", x.question(0, 8, 0), -2);
        Due.is("question -2", x.question(0, -2, 0), -2);
        Due.is("no questions", x.question(1, NONE, 0), -2);
        Due.text(x, 1, NONE, "");
        Due.is("none in it", x.question(1, NONE, 0), 0);
    }

    private static void holds() {
        VersionSearch x = Due.with(ARCHIVE, QUESTIONS, "");
        // phrase a c: abac yes, adbac yes, adb no, abac yes; bc no, cb no
        int[][] first = {
            {1, 1, 0, 1}, {1, 1, 0, 1}, {1, 1, 0, 1}, {0, 0, 1, 0}, {1, 1, 1, 1}, {1, 0, 0, 1}, {0, 0, 0, 0}, {1, 1, 0, 1}};
        int[][] second = {{0, 0}, {0, 0}, {0, 0}, {1, 1}, {0, 0}, {0, 0}, {0, 0}, {0, 0}};
        for (int k = 0; k < 8; k++) {
            for (int v = 0; v < 4; v++) {
                Due.is("holds " + k + " 0 " + v, x.holds(0, 0, k, 0, v), first[k][v]);
            }
            for (int v = 0; v < 2; v++) {
                Due.is("holds " + k + " 1 " + v, x.holds(0, 0, k, 1, v), second[k][v]);
            }
        }
        Due.is("no version", x.holds(0, 0, 0, 0, 4), NONE);
        Due.is("version -1", x.holds(0, 0, 0, 0, -1), NONE);
        Due.is("no document", x.holds(0, 0, 0, 2, 0), NONE);
        Due.is("no question", x.holds(0, 0, 8, 0, 0), NONE);
        Due.is("question -1", x.holds(0, 0, -1, 0, 0), NONE);
        Due.is("no questions", x.holds(0, 1, 0, 0, 0), NONE);
        Due.is("no archive", x.holds(1, 0, 0, 0, 0), NONE);
    }

    private static void heldBy(String row, String question, int want) {
        VersionSearch x = Due.with("doc " + row + ";", question + ";", "");
        Due.is(question + " in " + row, x.holds(0, 0, 0, 0, 0), want);
    }

    private static void holdsOfEachKind() {
        heldBy("a b c", "phrase b c", 1);
        heldBy("a b c", "phrase a c", 0);
        heldBy("a b c", "phrase c", 1);
        heldBy("a b", "phrase a b c", 0);
        heldBy("ab c", "phrase a", 0);
        heldBy("a x b", "near a b 1", 0);
        heldBy("a x b", "near a b 2", 1);
        heldBy("b x a", "near a b 2", 1);
        heldBy("a x x", "near a a 9", 0);
        heldBy("a x a", "near a a 2", 1);
        heldBy("a x a", "near a a 1", 0);
        heldBy("a x x x x x x x x b", "near a b 9", 1);
        heldBy("a x x x x x x x x x b", "near a b 9", 0);
        heldBy("a b a", "many a 2", 1);
        heldBy("a b a", "many a 3", 0);
        VersionSearch x = Due.with("doc b;put 0 0 a;cut 0 0 1;put 0 0 a;doc a;put 1 0 b;", "phrase a;new 0;ever 0;not 2;ever 3;", "");
        int[][] held = {{0, 1, 0, 1, 1, 1}, {0, 1, 0, 1, 1, 0}, {0, 1, 1, 1, 1, 1}, {1, 0, 0, 0, 0, 0}, {1, 1, 1, 1, 0, 0}};
        for (int k = 0; k < 5; k++) {
            for (int i = 0; i < 6; i++) {
                Due.is("kind " + k + " " + i, x.holds(0, 0, k, i / 4, i % 4), held[k][i]);
            }
        }
    }

    private static void spans() {
        VersionSearch x = Due.with(ARCHIVE, QUESTIONS, "");
        Due.is("how many", x.spans(0, 0, 0, 0, NONE, false), 2);
        Due.is("how many, last", x.spans(0, 0, 0, 0, NONE, true), 2);
        Due.is("first of 0", x.spans(0, 0, 0, 0, 0, false), 0);
        Due.is("last of 0", x.spans(0, 0, 0, 0, 0, true), 1);
        Due.is("first of 1", x.spans(0, 0, 0, 0, 1, false), 3);
        Due.is("last of 1", x.spans(0, 0, 0, 0, 1, true), 3);
        Due.is("no span 2", x.spans(0, 0, 0, 0, 2, false), NONE);
        Due.is("no span -2", x.spans(0, 0, 0, 0, -2, true), NONE);
        Due.is("how many of none", x.spans(0, 0, 0, 1, NONE, true), 0);
        Due.is("no span 0", x.spans(0, 0, 0, 1, 0, true), NONE);
        Due.is("no document", x.spans(0, 0, 0, 2, NONE, true), NONE);
        Due.is("no question", x.spans(0, 0, 8, 0, NONE, true), NONE);
        Due.is("no questions", x.spans(0, 1, 0, 0, NONE, true), NONE);
        Due.is("no archive", x.spans(1, 0, 0, 0, NONE, true), NONE);
    }

    private static void times() {
        VersionSearch x = Due.with("doc a a a b a a;doc;", "phrase a a;phrase a;many a 1;phrase a a b a;", "");
        Due.is("TIMES, one over the other", x.times(0, 0, 0, 0, 0), 3);
        Due.is("TIMES of one word", x.times(0, 0, 1, 0, 0), 5);
        Due.is("TIMES of four", x.times(0, 0, 3, 0, 0), 1);
        Due.is("TIMES in none", x.times(0, 0, 0, 1, 0), 0);
        Due.is("no phrase", x.times(0, 0, 2, 0, 0), NONE);
        Due.is("no version", x.times(0, 0, 0, 0, 1), NONE);
        Due.is("no question", x.times(0, 0, 4, 0, 0), NONE);
        Due.is("no questions", x.times(0, 1, 0, 0, 0), NONE);
        Due.is("no archive", x.times(1, 0, 0, 0, 0), NONE);
    }

    private static void found() {
        VersionSearch x = Due.with(ARCHIVE, QUESTIONS, "");
        Due.is("EVER", x.found(0, 0, 0, 0), 1);
        Due.is("ALWAYS", x.found(0, 0, 0, 1), 0);
        Due.is("EVER of not", x.found(0, 0, 3, 0), 3);
        Due.is("ALWAYS of not", x.found(0, 0, 3, 1), 2);
        Due.is("ALWAYS of ever", x.found(0, 0, 4, 1), 1);
        Due.is("CHANGES", x.found(0, 0, 0, 2), 3);
        Due.is("in how many", x.found(0, 0, 0, 3), 3);
        Due.is("in how many of not", x.found(0, 0, 3, 3), 3);
        Due.is("what 4", x.found(0, 0, 0, 4), NONE);
        Due.is("what 9", x.found(0, 0, 0, 9), NONE);
        Due.is("what -1", x.found(0, 0, 0, -1), NONE);
        int[] asOf = {1, 1, 1, 0, 1, 1, 1};
        for (int date = 0; date < asOf.length; date++) {
            Due.is("AS OF " + date, x.found(0, 0, 0, 100 + date), asOf[date]);
        }
        Due.is("AS OF 99", x.found(0, 0, 0, 199), 1);
        int[] asOfNot = {0, 2, 2, 3, 2, 2};
        for (int date = 0; date < asOfNot.length; date++) {
            Due.is("AS OF of not " + date, x.found(0, 0, 3, 100 + date), asOfNot[date]);
        }
        int[] changes = {0, 3, 4, NONE};
        int[] changesOfNot = {1, 3, 4, NONE};
        for (int i = 0; i < changes.length; i++) {
            Due.is("CHANGE " + i, x.found(0, 0, 0, 200 + i), changes[i]);
            Due.is("CHANGE of not " + i, x.found(0, 0, 3, 200 + i), changesOfNot[i]);
        }
        Due.is("RANK 0", x.found(0, 0, 0, 10), 0);
        Due.is("RANK 1", x.found(0, 0, 0, 11), 1);
        Due.is("RANK 2", x.found(0, 0, 0, 12), NONE);
        Due.is("RANK 0 of not", x.found(0, 0, 3, 10), 1);
        Due.is("no question", x.found(0, 0, 8, 0), NONE);
        Due.is("no questions", x.found(0, 1, 0, 0), NONE);
        Due.is("no archive", x.found(1, 0, 0, 0), NONE);
        Due.text(x, 0, NONE, "");
        Due.is("EVER in nothing", x.found(1, 0, 3, 0), 0);
        Due.is("CHANGES in nothing", x.found(1, 0, 3, 2), 0);
        Due.is("RANK in nothing", x.found(1, 0, 3, 10), NONE);
    }

    private static void ranks() {
        VersionSearch x = Due.with("doc a;put 0 0 b;cut 0 0 2;doc;put 1 0 a;back 1 1;doc b;doc;put 3 0 a a;", "phrase a;", "");
        int[] order = {1, 0, 3, 2};
        for (int i = 0; i < 4; i++) {
            Due.is("RANK " + i, x.found(0, 0, 0, 10 + i), order[i]);
        }
        Due.text(x, 0, 0, "doc a;cut 0 0 1;doc;put 1 0 a;doc a;");
        int[] latest = {1, 2, 0};
        for (int i = 0; i < 3; i++) {
            Due.is("RANK by the latest " + i, x.found(0, 0, 0, 10 + i), latest[i]);
        }
    }

    private static void best() {
        VersionSearch x = Due.with(ARCHIVE, QUESTIONS, "");
        Due.is("BEST", x.best(0, 0, 0), 4);
        // 0, 1, 2 and 7 hold in the same versions; all others in some of their own
        Due.is("SAME", x.best(0, 0, 1), 6);
        Due.is("what 2", x.best(0, 0, 2), -2);
        Due.is("what -1", x.best(0, 0, -1), -2);
        Due.is("no questions", x.best(0, 1, 0), -2);
        Due.is("no archive", x.best(1, 0, 0), -2);
        Due.text(x, 1, NONE, "");
        Due.is("BEST of none", x.best(0, 1, 0), NONE);
        Due.is("SAME of none", x.best(0, 1, 1), 0);
        Due.text(x, 1, 1, "phrase x;phrase y;");
        Due.is("BEST in none", x.best(0, 1, 0), 0);
        Due.is("SAME in none", x.best(0, 1, 1), 1);
    }

    private static void implies() {
        VersionSearch x = Due.with(ARCHIVE, QUESTIONS, "");
        Due.is("0 -> 4", x.implies(0, 0, 0, 4), 1);
        Due.is("4 -> 0", x.implies(0, 0, 4, 0), 0);
        Due.is("0 -> 3", x.implies(0, 0, 0, 3), 0);
        Due.is("6 -> 0", x.implies(0, 0, 6, 0), 1);
        Due.is("5 -> 1", x.implies(0, 0, 5, 1), 1);
        Due.is("3 -> 3", x.implies(0, 0, 3, 3), 1);
        Due.is("no a", x.implies(0, 0, 8, 0), NONE);
        Due.is("no b", x.implies(0, 0, 0, -1), NONE);
        Due.is("no questions", x.implies(0, 1, 0, 0), NONE);
        Due.is("no archive", x.implies(1, 0, 0, 0), NONE);
    }

    private static void fact() {
        VersionSearch x = Due.with("", "", "in 0 1;out 3 9;");
        Due.is("how many", x.fact(0, NONE, 0), 2);
        Due.is("NONE, what 1", x.fact(0, NONE, 1), -2);
        int[][] rows = {{1, 0, 1}, {0, 3, 9}};
        for (int k = 0; k < 2; k++) {
            for (int what = 0; what < 3; what++) {
                Due.is("fact " + k + " " + what, x.fact(0, k, what), rows[k][what]);
            }
            Due.is("what 3", x.fact(0, k, 3), -2);
            Due.is("what -1", x.fact(0, k, -1), -2);
        }
        Due.is("fact 2", x.fact(0, 2, 0), -2);
        Due.is("fact -2", x.fact(0, -2, 0), -2);
        Due.is("no hunt", x.fact(1, NONE, 0), -2);
    }

    private static void fits() {
        VersionSearch x = Due.with(ARCHIVE, "", "in 0 1;out 0 0;");
        Due.is("how many: d", x.fits(0, 0, 0), 1);
        Due.is("SURE", x.fits(0, 0, 1), 4);
        Due.is("ASK of one: all alike", x.fits(0, 0, 2), 0);
        Due.is("the first", x.fits(0, 0, 10), D);
        Due.is("no second", x.fits(0, 0, 11), -2);
        Due.is("what 3", x.fits(0, 0, 3), -2);
        Due.is("what 9", x.fits(0, 0, 9), -2);
        Due.is("what -1", x.fits(0, 0, -1), -2);
        Due.text(x, 2, 0, "out 0 9;");
        Due.is("out of one that is not there", x.fits(0, 0, 0), 4);
        Due.is("SURE of several", x.fits(0, 0, 1), NONE);
        // of a, b, c, d: 00 has abc, 01 all, 02 abd, 03 abc, 10 bc
        Due.is("ASK", x.fits(0, 0, 2), 10);
        Due.is("the last", x.fits(0, 0, 13), D);
        Due.text(x, 2, 0, "in 0 9;");
        Due.is("in one that is not there", x.fits(0, 0, 0), 0);
        Due.is("SURE of none", x.fits(0, 0, 1), NONE);
        Due.is("ASK of none", x.fits(0, 0, 2), NONE);
        Due.is("first of none", x.fits(0, 0, 10), -2);
        Due.text(x, 2, 0, "");
        Due.is("without facts", x.fits(0, 0, 0), 4);
        Due.is("no hunt", x.fits(0, 1, 0), -2);
        Due.is("no archive", x.fits(1, 0, 0), -2);
        Due.text(x, 0, 0, "doc ab a;doc b;put 0 0 ac;");
        Due.text(x, 2, 0, "in 0 1;out 1 0;");
        Due.is("SURE of three", x.fits(0, 0, 1), 1);
        Due.is("second of three by letters", x.fits(0, 0, 11), Due.word("ab"));
        Due.is("ASK: 2 of 3 are in 00", x.fits(0, 0, 2), 0);
    }

    /** The document's own rule for a number, by hand. */
    private static int next(int x) {
        return x * 1103515245 + 12345;
    }

    private static void drawn() {
        VersionSearch x = Due.with(ARCHIVE, "", "");
        Due.is("n 0: VERSIONS", x.drawn(0, 7, 0, 0, 0), 4);
        Due.is("n 0: WORDS", x.drawn(0, 7, 0, 0, 1), 4);
        Due.is("n 0: TOKENS", x.drawn(0, 7, 0, 0, 2), 5);
        Due.is("n 0: TOKENS of 1", x.drawn(0, 7, 0, 1, 2), 2);
        Due.is("n 0: place 3", x.drawn(0, 7, 0, 0, 13), C);
        Due.is("n 0: place 4", x.drawn(0, 7, 0, 0, 14), NONE);
        Due.is("n -1", x.drawn(0, 7, -1, 0, 0), NONE);
        Due.is("n 41", x.drawn(0, 7, 41, 0, 0), NONE);
        Due.is("what 3", x.drawn(0, 7, 0, 0, 3), NONE);
        Due.is("what -1", x.drawn(0, 7, 0, 0, -1), NONE);
        Due.is("no document", x.drawn(0, 7, 1, 2, 0), NONE);
        Due.is("no archive", x.drawn(1, 7, 1, 0, 0), NONE);
        Due.text(x, 0, 0, "doc b a c;");
        for (int seed = -30; seed < 30; seed++) {
            drawnOnce(x, seed);
        }
        Due.is("the archive stays", x.archive(0, 1), 1);
        Due.is("its tokens stay", x.archive(0, 3), 3);
    }

    private static void drawnOnce(VersionSearch x, int seed) {
        int state = next(next(seed));
        int deed = (state >>> 16) % 6;
        state = next(state);
        int first = state >>> 16;
        int second = next(state) >>> 16;
        StringBuilder row = new StringBuilder("bac");
        int tokens = 3;
        if (deed < 2) {
            row.deleteCharAt(first % 3);
        } else if (deed < 4) {
            row.insert(first % 4, 'b');
            tokens++;
        } else if (deed == 4) {
            char word = row.charAt(first % 3);
            row.deleteCharAt(first % 3).insert(second % 3, word);
        }
        String call = "drawn by " + seed;
        Due.is(call + " VERSIONS", x.drawn(0, seed, 1, 0, 0), 2);
        Due.is(call + " WORDS", x.drawn(0, seed, 1, 0, 1), row.length());
        Due.is(call + " TOKENS", x.drawn(0, seed, 1, 0, 2), tokens);
        for (int p = 0; p < row.length(); p++) {
            Due.is(call + " place " + p, x.drawn(0, seed, 1, 0, 10 + p), row.charAt(p) - 'a' + 1);
        }
    }

    private static void drawnEdges() {
        for (int seed = 0; seed < 20; seed++) {
            VersionSearch x = Due.with("doc;", "", "");
            int versions = 1;
            int state = seed;
            for (int n = 0; n <= 40; n++) {
                Due.is("without tokens, " + n + " times", x.drawn(0, seed, n, 0, 0), versions);
                state = next(next(state));
                // Without tokens there is back alone, and it alone draws a third number.
                if ((state >>> 16) % 6 == 5) {
                    versions = Math.min(10, versions + 1);
                    state = next(state);
                }
            }
        }
        VersionSearch x = Due.with("doc a a a a a a a a a a a a a a a a a a a b;", "", "");
        for (int seed = 0; seed < 40; seed++) {
            int deed = (next(next(seed)) >>> 16) % 6;
            Due.is("a 21st word is not put", x.drawn(0, seed, 1, 0, 0), deed == 2 || deed == 3 ? 1 : 2);
            Due.is("10 versions at most", x.drawn(0, seed, 40, 0, 0), 10);
        }
        Due.text(x, 0, 0, "doc z;cut 0 0 1;");
        for (int seed = 0; seed < 40; seed++) {
            int deed = (next(next(seed)) >>> 16) % 6;
            boolean put = deed == 2 || deed == 3;
            Due.is("no words to cut or move", x.drawn(0, seed, 1, 0, 0), put || deed == 5 ? 3 : 2);
            Due.is("the first token's word", x.drawn(0, seed, 1, 0, 10), put || deed == 5 && x.drawn(0, seed, 1, 0, 1) == 1 ? 26 : NONE);
        }
    }

    private static void count() {
        VersionSearch x = new VersionSearch();
        Due.text(x, 0, NONE, "");
        Due.text(x, 0, NONE, "");
        Due.text(x, 1, NONE, "");
        Due.is("archives", x.count(0), 2);
        Due.is("questions", x.count(1), 1);
        Due.is("hunts", x.count(2), 0);
        Due.is("sort 3", x.count(3), -2);
        Due.is("sort -1", x.count(-1), -2);
    }

    private static void images() {
        VersionSearch x = Due.with(ARCHIVE, QUESTIONS, "in 0 0;");
        Due.text(x, 0, NONE, "doc abcde;");
        Due.tape(x, "doc a;doc b;");
        Due.is("image 0", x.image(0), true);
        Due.is("image -1", x.image(-1), false);
        Due.is("image 3", x.image(3), false);
        Due.is("again 1", x.again(1), false);
        Due.is("again 3", x.again(3), false);
        Due.is("again -1", x.again(-1), false);
        Due.is("the tape is told", x.text(0, NONE), 1);
        Due.is("no fault now", x.fault(0), 0);
        Due.text(x, 0, 0, "");
        Due.text(x, 1, 0, "");
        Due.text(x, 2, 0, "out 1 1;out 1 1;");
        Due.is("image 2", x.image(2), true);
        Due.is("again 0", x.again(0), true);
        Due.is("tape as it was", x.end(12), 12);
        Due.is("no longer tape", x.end(13), NONE);
        Due.is("fault as it was", x.fault(0), 2);
        Due.is("place as it was", x.fault(1), 4);
        Due.is("archives as they were", x.count(0), 1);
        Due.is("archive as it was", x.archive(0, 2), 20);
        Due.is("questions as they were", x.question(0, NONE, 0), 8);
        Due.is("hunt as it was", x.fact(0, NONE, 0), 1);
        Due.is("the tape's bytes as they were", x.text(0, NONE), 1);
        Due.is("documents of it", x.archive(1, 0), 2);
        Due.is("again 2", x.again(2), true);
        Due.is("archive of image 2", x.archive(0, 0), 0);
        Due.is("hunt of image 2", x.fact(0, 1, 1), 1);
        Due.is("image 0 anew", x.image(0), true);
        Due.is("again 0 anew", x.again(0), true);
        Due.is("archive of the new image 0", x.archive(0, 0), 0);
    }
}
