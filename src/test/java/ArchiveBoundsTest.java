/** The bounds of what an archive tells (Terms 2 to 5, promises 6 to 12), each by the document's words and on both sides. */
public final class ArchiveBoundsTest {
    private static final int NONE = VersionSearch.NONE;
    private static final int LEAST = Integer.MIN_VALUE;
    private static final int GREATEST = Integer.MAX_VALUE;
    private static final int[] FAR = {LEAST, LEAST + 10, -100, -10, -2, -1, GREATEST - 10, GREATEST};

    /** Dates 0 .. 5; rows of document 0: abac, adbac, adb, abac, of document 1: bc, cb. */
    private static final String ARCHIVE = "doc a b a c;doc b c;put 0 1 d;cut 0 3 2;back 0 0;move 1 0 1;";

    private ArchiveBoundsTest() {
    }

    public static void main(String[] args) {
        sameToken();
        archiveNumbers();
        archiveOfNone();
        archiveOfFour();
        fullArchive();
        fullVersions();
        fullWords();
        manyWords();
        manyTokens();
        sizes();
        tokens();
        postings();
        longest();
        twins();
        words();
        passagesOfTheSameVersions();
        passagesSideBySide();
        passagesAhead();
        passagesByThemselves();
        longestPassage();
        kept();
        returns();
        versionNumbers();
        versionNoneSuch();
        fresh();
        lost();
        turned();
        oldest();
        wordNumbers();
        wordAtPlace();
        documentsApart();
        life();
        lifeNoneSuch();
        wordsByLetters();
        wordsEachOnce();
        wordVersions();
        wordDocuments();
        wordFirstDate();
        spread();
        wordNoneSuch();
        dated();
        shared();
        sharedNoneSuch();
        common();
        commonOfWhicheverDocuments();
        commonNoneSuch();
        Due.finish("ArchiveBoundsTest");
    }

    private static VersionSearch told(String archive) {
        VersionSearch x = new VersionSearch();
        Due.is("archive " + archive, Due.text(x, 0, NONE, archive), 0);
        return x;
    }

    private static void answers(String archive, int what, int want) {
        Due.is(archive + " archive(0, " + what + ")", told(archive).archive(0, what), want);
    }

    private static void rowIs(VersionSearch x, int document, int version, String row) {
        for (int place = 0; place < row.length(); place++) {
            String call = "place " + place + " of " + document + " " + version;
            Due.is(call, x.version(0, document, version, 10 + place), row.charAt(place) - 'a' + 1);
        }
        Due.is("length of " + document + " " + version, x.version(0, document, version, 0), row.length());
        Due.is("behind " + document + " " + version, x.version(0, document, version, 10 + row.length()), NONE);
    }

    private static void sameToken() {
        Due.sentence("it is the same one in all VERSIONS of its DOCUMENT in which it stays, is moved, or is back");
        VersionSearch x = told("doc a b c;cut 0 2 1;move 0 0 1;back 0 0;put 0 3 a;");
        Due.is("it stays", x.shared(0, 0, 0, 1), 2);
        Due.is("is moved", x.shared(0, 0, 1, 2), 2);
        Due.is("is back", x.shared(0, 0, 0, 3), 3);
        Due.is("a word put anew is another one", x.shared(0, 0, 0, 4), 3);
        Due.is("tokens", x.archive(0, 3), 4);
        Due.is("the same word of another document", told("doc a;doc a;").archive(0, 3), 2);
        Due.is("the same word of one doc", told("doc a a;").archive(0, 3), 2);
    }

    private static void archiveNumbers() {
        Due.sentence("Of an ARCHIVE, what 0: DOCUMENTS, .. 50 + d: RETURNS. -2: there is none such (of either), or for another what.");
        VersionSearch x = told(ARCHIVE);
        int[] want = {2, 6, 20, 7, 9, 0, 1, 4};
        int[][] ofDocuments = {{4, 2}, {4, 2}, {2, 1}, {2, 2}, {1, 0}};
        for (int what = 0; what < 100; what++) {
            boolean document = what >= 10 && what < 60 && what % 10 < 2;
            int due = what < want.length ? want[what] : document ? ofDocuments[what / 10 - 1][what % 10] : -2;
            Due.is("what " + what, x.archive(0, what), due);
        }
        for (int far : FAR) {
            Due.is("what " + far, x.archive(0, far), -2);
            Due.is("archive " + far, x.archive(far, 0), -2);
        }
        Due.is("archive 1", x.archive(1, 0), -2);
        Due.is("archive 2", x.archive(2, 0), -2);
        Due.text(x, 0, NONE, "doc;doc;doc;");
        Due.is("the second archive", x.archive(1, 0), 3);
        Due.is("the first one stays", x.archive(0, 0), 2);
        Due.is("no third", x.archive(2, 0), -2);
    }

    private static void archiveOfNone() {
        Due.sentence("-2: there is none such (of either)");
        VersionSearch x = told("");
        int[] want = {0, 0, 0, 0, 0, NONE, 0, 0};
        for (int what = 0; what < 64; what++) {
            Due.is("without documents, what " + what, x.archive(0, what), what < want.length ? want[what] : -2);
        }
        VersionSearch y = told("doc;");
        int[] empty = {1, 1, 0, 0, 0, 0, 0, 0, -2, -2, 1};
        for (int what = 0; what < empty.length; what++) {
            Due.is("without words, what " + what, y.archive(0, what), empty[what]);
        }
        for (int what = 20; what < 60; what += 10) {
            Due.is("without words, what " + what, y.archive(0, what), 0);
            Due.is("no document 1, what " + what, y.archive(0, what + 1), -2);
        }
    }

    private static void archiveOfFour() {
        Due.sentence("10 + d: VERSIONS of a DOCUMENT, 20 + d: PASSAGES, 30 + d: the longest one (0: none), 40 + d: KEPT, 50 + d: RETURNS");
        VersionSearch x = told("doc a b c;doc a b;doc a;doc;put 3 0;back 3 0;put 2 1 b;back 2 0;move 1 0 1;");
        int[][] want = {{1, 2, 3, 3}, {1, 2, 2, 0}, {3, 1, 1, 0}, {3, 2, 1, 0}, {0, 0, 1, 0}};
        for (int d = 0; d < 4; d++) {
            for (int kind = 0; kind < want.length; kind++) {
                Due.is("what " + (10 * kind + 10 + d), x.archive(0, 10 * kind + 10 + d), want[kind][d]);
            }
        }
        for (int d = 4; d < 10; d++) {
            for (int kind = 1; kind < 8; kind++) {
                Due.is("what " + (10 * kind + d), x.archive(0, 10 * kind + d), -2);
            }
        }
    }

    /** Four documents of twenty words, each of its own word, with ten versions. */
    private static VersionSearch full() {
        String text = "";
        for (char word = 'a'; word <= 'd'; word++) {
            text += "doc" + (" " + word).repeat(20) + ";";
        }
        for (int document = 0; document < 4; document++) {
            text += ("back" + document + " 0;").repeat(9);
        }
        return told(text);
    }

    private static void fullArchive() {
        Due.sentence("at most 4, .. VERSIONS, at most 10, .. at most 20 WORDS");
        VersionSearch x = full();
        int[] want = {4, 40, 800, 80, 80, 0, 180, 4};
        for (int what = 0; what < want.length; what++) {
            Due.is("what " + what, x.archive(0, what), want[what]);
        }
        for (int d = 0; d < 4; d++) {
            int[] ofDocument = {10, 1, 20, 20, 0};
            for (int kind = 0; kind < ofDocument.length; kind++) {
                Due.is("what " + (10 * kind + 10 + d), x.archive(0, 10 * kind + 10 + d), ofDocument[kind]);
            }
        }
        for (int date = 0; date < 40; date++) {
            Due.is("dated " + date, x.dated(0, date), date < 4 ? date : (date - 4) / 9);
        }
        Due.is("dated 40", x.dated(0, 40), NONE);
    }

    private static void fullVersions() {
        Due.sentence("Of a VERSION .. NONE: there is none such (of any)");
        VersionSearch x = full();
        for (int d = 0; d < 4; d++) {
            for (int v : new int[] {0, 9}) {
                Due.is("the first word", x.version(0, d, v, 10), d + 1);
                Due.is("the last word", x.version(0, d, v, 29), d + 1);
                Due.is("no 21st word", x.version(0, d, v, 30), NONE);
                Due.is("no word ahead", x.version(0, d, v, 9), NONE);
                Due.is("life of the last", x.life(0, d, v, 19, 2), 10);
                Due.is("no life of a 21st", x.life(0, d, v, 20, 2), NONE);
                Due.is("no life ahead", x.life(0, d, v, -1, 2), NONE);
            }
            Due.is("no 11th version", x.version(0, d, 10, 0), NONE);
            Due.is("no version ahead", x.version(0, d, -1, 0), NONE);
            Due.is("no life of an 11th", x.life(0, d, 10, 0, 0), NONE);
            Due.is("no life ahead", x.life(0, d, -1, 0, 0), NONE);
            Due.is("shared", x.shared(0, d, 0, 9), 20);
            Due.is("not shared", x.shared(0, d, 0, 10), NONE);
            Due.is("common", x.common(0, d, 0, d, 9), 20);
            Due.is("nothing common", x.common(0, d, 9, (d + 1) % 4, 0), 0);
            Due.is("no common", x.common(0, d, 10, d, 0), NONE);
            Due.is("no common with it", x.common(0, d, 0, d, 10), NONE);
        }
        Due.is("no 5th document", x.version(0, 4, 0, 0), NONE);
        Due.is("no document ahead", x.version(0, -1, 9, 0), NONE);
        Due.is("no common of a 5th", x.common(0, 4, 0, 0, 0), NONE);
        Due.is("no shared of a 5th", x.shared(0, 4, 0, 0), NONE);
    }

    private static void fullWords() {
        Due.sentence("in how many VERSIONS it is; in which DOCUMENTS (bits)");
        VersionSearch x = full();
        for (int k = 0; k < 4; k++) {
            Due.is("word", x.word(0, k, 0), k + 1);
            Due.is("versions", x.word(0, k, 1), 10);
            Due.is("documents", x.word(0, k, 2), 1 << k);
            Due.is("first date", x.word(0, k, 3), k);
            Due.is("spread", x.word(0, k, 4), 20);
        }
        Due.is("no 5th word", x.word(0, 4, 0), NONE);
    }

    /** The k-th of many words, which are by letters as k is by number: a, aa .. ae, b, ba .. */
    private static String wordOf(int k) {
        String first = "" + (char) ('a' + k / 6);
        return k % 6 == 0 ? first : first + (char) ('a' + k % 6 - 1);
    }

    /** As many words as a tape may well tell, each once, told in another order than that of the letters. */
    private static void manyWords() {
        Due.sentence("WORDS of an ARCHIVE, by letters (a beginning first), each once: how many; the k-th");
        StringBuilder text = new StringBuilder();
        int[] dates = new int[156];
        int told = 0;
        for (int line = 0; line < 12; line++) {
            int document = line % 4;
            text.append(line < 4 ? "doc" : "put" + document + " 0");
            for (int i = 0; i < 13; i++) {
                int k = told * 7 % 156;
                text.append(' ').append(wordOf(k));
                dates[k] = line < 4 ? line : 2 * line - 3;
                told++;
            }
            text.append(line >= 3 && line < 11 ? ";cut" + (line + 1) % 4 + " 0 13;" : ";");
        }
        VersionSearch x = told(text.toString());
        Due.is("how many", x.archive(0, 7), 156);
        Due.is("TOKENS", x.archive(0, 3), 156);
        for (int k = 0; k < 156; k++) {
            Due.is("word " + k, x.word(0, k, 0), Due.word(wordOf(k)));
            Due.is("its date", x.word(0, k, 3), dates[k]);
        }
        Due.is("no word 156", x.word(0, 156, 0), NONE);
        Due.is("a word is in one version", x.word(0, 155, 1), 1);
    }

    /** As many tokens as a tape may well tell, and those that are drawn behind them. */
    private static void manyTokens() {
        Due.sentence("TOKENS: how many");
        String text = ("doc" + " a".repeat(20) + ";").repeat(4);
        for (int document = 0; document < 3; document++) {
            text += ("cut#0 20;put#0" + " a".repeat(20) + ";").repeat(2).replace("#", document + " ");
        }
        text += "cut3 0 20;put3 0" + " a".repeat(20) + ";";
        VersionSearch x = told(text);
        Due.is("TOKENS", x.archive(0, 3), 220);
        Due.is("POSTINGS", x.archive(0, 4), 220);
        Due.is("SIZE", x.archive(0, 2), 220);
        Due.is("PASSAGES", x.archive(0, 20), 3);
        Due.is("PASSAGES of the last document", x.archive(0, 23), 2);
        Due.is("WORDS", x.archive(0, 7), 1);
        Due.is("the last token's first version", x.life(0, 3, 2, 19, 0), 2);
        Due.is("its versions", x.life(0, 3, 2, 19, 2), 1);
        Due.is("FRESH", x.version(0, 3, 2, 2), 20);
        Due.is("TOKENS of a document", x.drawn(0, 7, 0, 0, 2), 60);
        Due.is("TOKENS of the last document", x.drawn(0, 7, 0, 3, 2), 40);
    }

    private static void sizes() {
        Due.sentence("SIZE: WORDS of all VERSIONS, together");
        answers("", 2, 0);
        answers("doc;", 2, 0);
        answers("doc a a b;", 2, 3);
        answers("doc a;put 0 0 b;doc c;", 2, 4);
        answers("doc a;cut 0 0 1;", 2, 1);
    }

    private static void tokens() {
        Due.sentence("TOKENS: how many");
        answers("doc;", 3, 0);
        answers("doc a;", 3, 1);
        answers("doc a;back 0 0;move 0 0 0;", 3, 1);
        answers("doc a;cut 0 0 1;", 3, 1);
        answers("doc a;cut 0 0 1;put 0 0 a;", 3, 2);
    }

    private static void postings() {
        Due.sentence("POSTINGS: of each TOKEN the longest rows of VERSIONS, one behind the other, in all of which it is, together");
        answers("doc;put 0 0;", 4, 0);
        answers("doc a;", 4, 1);
        answers("doc a;back 0 0;", 4, 1);
        answers("doc a;cut 0 0 1;", 4, 1);
        answers("doc a;cut 0 0 1;back 0 0;", 4, 2);
        answers("doc a;put 0 0;back 0 0;cut 0 0 1;back 0 0;back 0 3;back 0 0;", 4, 3);
        answers("doc a b;doc c;", 4, 3);
        answers("doc a;" + "cut0 0 1;back0 0;".repeat(4) + "cut0 0 1;", 4, 5);
    }

    private static void longest() {
        Due.sentence("LONGEST: the DOCUMENT the latest VERSION of which has most WORDS, of several the least (none: none)");
        answers("", 5, NONE);
        answers("doc;", 5, 0);
        answers("doc;doc;", 5, 0);
        answers("doc;doc a;", 5, 1);
        answers("doc a;doc b;", 5, 0);
        answers("doc a;doc b c;doc d e;", 5, 1);
        answers("doc a b;cut 0 0 2;doc b;", 5, 1);
        answers("doc a;doc b;put 1 0 a;doc a b;doc a b;", 5, 1);
        answers("doc;doc;doc;doc a;", 5, 3);
        answers("doc a;doc b c;cut 1 0 2;", 5, 0);
        answers("doc a b;cut 0 0 1;doc c d e;cut 1 0 2;doc f g;", 5, 2);
    }

    private static void twins() {
        Due.sentence("TWINS: couples of VERSIONS, of whichever DOCUMENTS, of the same WORDS in the same row");
        answers("doc a b;", 6, 0);
        answers("doc a b;doc a b;", 6, 1);
        answers("doc a b;doc b a;", 6, 0);
        answers("doc a b;doc a;", 6, 0);
        answers("doc a;doc a b;", 6, 0);
        answers("doc a b;doc a c;", 6, 0);
        answers("doc;doc;", 6, 1);
        answers("doc a;back 0 0;back 0 0;", 6, 3);
        answers("doc a;doc a;doc a;doc a;", 6, 6);
        answers("doc a;back 0 0;doc a;put 1 0 b;", 6, 3);
        answers("doc;put0 0;put0 0;put0 0 a;doc;put1 0 a;", 6, 7);
        answers("doc a;back 0 0;doc a;put 1 0 b;cut 1 0 1;doc a;", 6, 10);
    }

    private static void words() {
        Due.sentence("WORDS of an ARCHIVE, by letters (a beginning first), each once: how many");
        answers("", 7, 0);
        answers("doc;", 7, 0);
        answers("doc a;", 7, 1);
        answers("doc a a;doc a;", 7, 1);
        answers("doc a aa;", 7, 2);
        answers("doc a;cut 0 0 1;put 0 0 b;", 7, 2);
    }

    private static void passagesOfTheSameVersions() {
        Due.sentence("PASSAGES of a DOCUMENT: two TOKENS that are in just the same VERSIONS");
        answers("doc a b;", 20, 1);
        answers("doc a b;back 0 0;", 20, 1);
        answers("doc a b;cut 0 1 1;", 20, 2);
        answers("doc a b;cut 0 0 1;", 20, 2);
        answers("doc a b;cut 0 0 2;", 20, 1);
        answers("doc a b;cut 0 0 2;back 0 0;", 20, 1);
        answers("doc a;put 0 1 b;", 20, 2);
        answers("doc;put 0 0 a b;", 20, 1);
        answers("doc a b;cut 0 1 1;back 0 0;cut 0 0 1;", 20, 2);
        answers("doc a;doc b;", 20, 1);
        answers("doc a;doc b;", 21, 1);
    }

    private static void passagesSideBySide() {
        Due.sentence("in each of them side by side");
        answers("doc a b;put 0 1 c;", 20, 3);
        answers("doc a b;put 0 2 c;", 20, 2);
        answers("doc a b;put 0 1 c;cut 0 1 1;", 20, 3);
        answers("doc a b c;move 0 1 2;", 20, 3);
        answers("doc a b c;move 0 0 2;", 20, 2);
        answers("doc a b c;move 0 2 0;", 20, 2);
    }

    private static void passagesAhead() {
        Due.sentence("the one ahead of the other");
        answers("doc a b;move 0 0 1;", 20, 2);
        answers("doc a b;move 0 0 0;", 20, 1);
        answers("doc a b;move 0 0 1;move 0 0 1;", 20, 2);
        answers("doc a a;move 0 0 1;", 20, 2);
    }

    private static void passagesByThemselves() {
        Due.sentence("(a TOKEN with which no other one is so is one by itself)");
        answers("doc;", 20, 0);
        answers("doc;put 0 0;", 20, 0);
        answers("doc a;", 20, 1);
        answers("doc a;cut 0 0 1;", 20, 1);
        answers("doc a;put 0 1 b;put 0 2 c;", 20, 3);
    }

    private static void longestPassage() {
        Due.sentence("how many TOKENS the longest one has");
        answers("doc;", 30, 0);
        answers("doc a;", 30, 1);
        answers("doc a b c;", 30, 3);
        answers("doc a b c d;put 0 1 e;", 30, 3);
        answers("doc a b c d;put 0 3 e;", 30, 3);
        answers("doc a b;put 0 1 c d e;", 30, 3);
        answers("doc a b;move 0 0 1;", 30, 1);
        answers("doc a;put 0 1 b;", 30, 1);
        answers("doc" + " a".repeat(20) + ";", 30, 20);
    }

    private static void kept() {
        Due.sentence("KEPT of a DOCUMENT: how many TOKENS are in all its VERSIONS");
        answers("doc;", 40, 0);
        answers("doc a b;", 40, 2);
        answers("doc a b;back 0 0;", 40, 2);
        answers("doc a b;cut 0 0 1;", 40, 1);
        answers("doc a b;cut 0 0 1;back 0 0;", 40, 1);
        answers("doc a b;put 0 0 c;", 40, 2);
        answers("doc a b;move 0 0 1;", 40, 2);
        answers("doc a;cut 0 0 1;put 0 0 a;", 40, 0);
        answers("doc a;doc b c;put 0 0 d;", 41, 2);
    }

    private static void returns() {
        Due.sentence("RETURNS of a DOCUMENT: VERSIONS that have the same WORDS in the same row as an earlier one of it, but not as the one just ahead");
        answers("doc a;", 50, 0);
        answers("doc a;back 0 0;", 50, 0);
        answers("doc a;back 0 0;back 0 0;", 50, 0);
        answers("doc a;cut 0 0 1;", 50, 0);
        answers("doc a;cut 0 0 1;back 0 0;", 50, 1);
        answers("doc a;cut 0 0 1;put 0 0 a;", 50, 1);
        answers("doc a;cut 0 0 1;put 0 0 b;", 50, 0);
        answers("doc a b;move 0 0 1;move 0 0 1;", 50, 1);
        answers("doc a;cut 0 0 1;back 0 0;back 0 0;", 50, 1);
        answers("doc a;cut 0 0 1;back 0 0;back 0 1;", 50, 2);
        answers("doc a a;move 0 0 1;", 50, 0);
        answers("doc a;doc b;cut 1 0 1;put 1 0 a;", 51, 0);
        answers("doc;" + "put0 0 a;back0 0;".repeat(4) + "put0 0 a;", 50, 8);
    }

    private static void versionNumbers() {
        Due.sentence("Of a VERSION, what 0: WORDS, 1: DATE, 2: FRESH, 3: LOST, 4: TURNED (0 of VERSION 0), 5: OLDEST (NONE), 10 + p: the WORD at a PLACE");
        VersionSearch x = told(ARCHIVE);
        int[][] want = {{4, 0, 4, 0, 0, 0}, {5, 2, 1, 0, 0, 0}, {3, 3, 0, 2, 0, 0}, {4, 4, 0, 1, 0, 0}};
        String[] rows = {"abac", "adbac", "adb", "abac"};
        for (int v = 0; v < 4; v++) {
            for (int what = 0; what < 6; what++) {
                Due.is("version " + v + " what " + what, x.version(0, 0, v, what), want[v][what]);
            }
            rowIs(x, 0, v, rows[v]);
        }
        int[] last = {2, 5, 0, 0, 1, 0};
        for (int what = 0; what < 6; what++) {
            Due.is("version 1 1 what " + what, x.version(0, 1, 1, what), last[what]);
        }
        rowIs(x, 1, 0, "bc");
        rowIs(x, 1, 1, "cb");
    }

    private static void versionNoneSuch() {
        Due.sentence("NONE: there is none such (of any), or for another what.");
        VersionSearch x = told(ARCHIVE);
        for (int what = 6; what < 10; what++) {
            Due.is("what " + what, x.version(0, 0, 0, what), NONE);
        }
        for (int what = 13; what < 50; what++) {
            Due.is("what " + what, x.version(0, 0, 2, what), NONE);
        }
        for (int far : FAR) {
            Due.is("what " + far, x.version(0, 0, 0, far), NONE);
            Due.is("version " + far, x.version(0, 0, far, 0), NONE);
            Due.is("document " + far, x.version(0, far, 0, 0), NONE);
            Due.is("archive " + far, x.version(far, 0, 0, 0), NONE);
        }
        Due.is("version 4 of 0", x.version(0, 0, 4, 0), NONE);
        Due.is("version 3 of 0", x.version(0, 0, 3, 0), 4);
        Due.is("version 2 of 1", x.version(0, 1, 2, 0), NONE);
        Due.is("document 2", x.version(0, 2, 0, 0), NONE);
        Due.is("archive 1", x.version(1, 0, 0, 0), NONE);
    }

    private static void fresh() {
        Due.sentence("FRESH of a VERSION: how many TOKENS of it are in none ahead");
        VersionSearch x = told("doc a b;put 0 0 c d;cut 0 0 3;back 0 0;put 0 0 a;back 0 1;doc;put 1 0 e;");
        int[] want = {2, 2, 0, 0, 1, 0};
        for (int v = 0; v < want.length; v++) {
            Due.is("version " + v, x.version(0, 0, v, 2), want[v]);
        }
        Due.is("of no words", x.version(0, 1, 0, 2), 0);
        Due.is("of a later document", x.version(0, 1, 1, 2), 1);
    }

    private static void lost() {
        Due.sentence("LOST: how many of the one just ahead are not in it");
        VersionSearch x = told("doc a b;put 0 0 c d;cut 0 0 3;back 0 0;cut 0 0 2;put 0 0 a b;back 0 1;doc e;cut 1 0 1;");
        int[] want = {0, 0, 3, 0, 2, 0, 2};
        for (int v = 0; v < want.length; v++) {
            Due.is("version " + v, x.version(0, 0, v, 3), want[v]);
        }
        Due.is("version 0 of a later document", x.version(0, 1, 0, 3), 0);
        VersionSearch y = told("doc;" + "put0 0 a;".repeat(9) + "doc b;doc c;");
        Due.is("version 0 behind ten of another document", y.version(0, 1, 0, 3), 0);
        Due.is("turned there", y.version(0, 1, 0, 4), 0);
        Due.is("fresh there", y.version(0, 1, 0, 2), 1);
        Due.is("version 1 of a later document", x.version(0, 1, 1, 3), 1);
    }

    private static void turned() {
        Due.sentence("TURNED: couples of TOKENS in both the VERSION and the one just ahead, that stand in the other order");
        VersionSearch x = told("doc a b c d;move 0 0 3;move 0 1 2;move 0 0 0;back 0 0;put 0 0 e;cut 0 1 1;");
        int[] want = {0, 3, 1, 0, 4, 0, 0};
        for (int v = 0; v < want.length; v++) {
            Due.is("version " + v, x.version(0, 0, v, 4), want[v]);
        }
        VersionSearch y = told("doc a b c d e;back 0 0;cut 0 0 1;move 0 0 3;back 0 0;doc a b;move 1 0 1;move 1 0 1;");
        int[] back = {0, 0, 0, 3, 3};
        for (int v = 0; v < back.length; v++) {
            Due.is("version " + v, y.version(0, 0, v, 4), back[v]);
        }
        Due.is("0 of VERSION 0", y.version(0, 1, 0, 4), 0);
        Due.is("turned", y.version(0, 1, 1, 4), 1);
        Due.is("turned again, by the one just ahead", y.version(0, 1, 2, 4), 1);
        Due.is("the same words are couples too", told("doc a a;move 0 0 1;").version(0, 0, 1, 4), 1);
        VersionSearch z = told("doc a;put 0 1 b c d;move 0 2 3;move 0 0 3;doc e;doc a;put 2 0 b;put 2 0 c d e;move 2 2 0;put 2 2 f;move 2 4 5;");
        int[] longer = {0, 0, 1, 3};
        int[] later = {0, 0, 0, 2, 0, 1};
        for (int v = 0; v < longer.length; v++) {
            Due.is("longer than the first one, version " + v, z.version(0, 0, v, 4), longer[v]);
        }
        for (int v = 0; v < later.length; v++) {
            Due.is("of a later document, version " + v, z.version(0, 2, v, 4), later[v]);
        }
        String twenty = "doc" + " a".repeat(20) + ";move 0 0 19;";
        Due.is("of twenty", told(twenty).version(0, 0, 1, 4), 19);
    }

    private static void oldest() {
        Due.sentence("OLDEST of a VERSION: the PLACE of the TOKEN in it that is in most VERSIONS up to it, of several the least (none: none)");
        VersionSearch x = told("doc a b;put 0 0 c;cut 0 1 1;back 0 1;cut 0 0 3;put 0 0 d;back 0 3;move 0 2 0;");
        int[] want = {0, 1, 1, 2, NONE, 0, 2, 0};
        for (int v = 0; v < want.length; v++) {
            Due.is("version " + v, x.version(0, 0, v, 5), want[v]);
        }
        VersionSearch y = told("doc a;put 0 1 b;back 0 0;back 0 0;put 0 0 c;back 0 1;doc;doc a b;");
        Due.is("of several the least", y.version(0, 0, 1, 5), 0);
        Due.is("of no words", y.version(0, 1, 0, 5), NONE);
        Due.is("of two in one", y.version(0, 2, 0, 5), 0);
        VersionSearch z = told("doc a b;put 0 2 c;cut 0 0 2;back 0 2;back 0 0;back 0 0;back 0 0;");
        // c is in two up to version 2, a and b in more, but later.
        Due.is("up to it alone", z.version(0, 0, 1, 5), 0);
        VersionSearch w = told("doc a;put 0 1 b;cut 0 0 1;back 0 1;back 0 0;back 0 0;");
        Due.is("b's two up to it, a's four later", w.version(0, 0, 3, 5), 0);
        VersionSearch u = told("doc b;put 0 0 a;back 0 1;back 0 1;cut 0 1 1;back 0 4;back 0 4;back 0 4;");
        Due.is("b's two, a's one up to version 1", u.version(0, 0, 1, 5), 1);
        Due.is("b's four, a's three up to version 3", u.version(0, 0, 3, 5), 1);
    }

    private static void wordNumbers() {
        Due.sentence("as a number (its letters as 1 .. 26, by 27s, the first one the greatest part)");
        VersionSearch x = told("doc a z aa az za zz aaa zzz abcd zzzz aaaa;");
        int[] want = {1, 26, 28, 53, 703, 728, 757, 19682, 21226, 531440, 20440};
        for (int place = 0; place < want.length; place++) {
            Due.is("place " + place, x.version(0, 0, 0, 10 + place), want[place]);
        }
    }

    private static void wordAtPlace() {
        Due.sentence("10 + p: the WORD at a PLACE, as a number");
        VersionSearch x = told("doc a b c d e;cut 0 1 3;cut 0 0 2;put 0 0 z;");
        rowIs(x, 0, 0, "abcde");
        rowIs(x, 0, 1, "ae");
        rowIs(x, 0, 2, "");
        rowIs(x, 0, 3, "z");
    }

    /** What comes to the tenth version of a document leaves the first one of the next document as it is. */
    private static void documentsApart() {
        Due.sentence("a VERSION is a row of at most 20 WORDS");
        String[] lines = {"cut 0 0 1;", "cut 0 19 1;", "cut 0 0 20;", "move 0 0 19;", "move 0 19 0;", "put 0 20;", "put 0 0;", "back 0 3;"};
        String twenty = "a".repeat(19) + "z";
        String[] rows = {
            twenty.substring(1), "a".repeat(19), "", "a".repeat(18) + "za", "z" + "a".repeat(19), twenty, twenty, twenty};
        for (int i = 0; i < lines.length; i++) {
            VersionSearch x = told("doc" + " a".repeat(19) + " z;doc b c;doc d;" + "back0 0;".repeat(8) + lines[i]);
            rowIs(x, 0, 9, rows[i]);
            rowIs(x, 0, 8, twenty);
            rowIs(x, 1, 0, "bc");
            rowIs(x, 2, 0, "d");
        }
        VersionSearch x = told("doc" + " a".repeat(18) + ";doc b c;" + "back0 0;".repeat(8) + "put 0 18 y z;");
        rowIs(x, 0, 9, "a".repeat(18) + "yz");
        rowIs(x, 1, 0, "bc");
    }

    private static void life() {
        Due.sentence("the first, the last VERSION in which it is; in how many it is; how many longest rows of these there are, one behind the other");
        VersionSearch x = told("doc a b;cut 0 0 1;put 0 0 c;back 0 0;back 0 2;back 0 2;cut 0 0 2;back 0 0;back 0 6;back 0 2;doc d;");
        // a: 0, 3, 7; b: 0 1 2 3 4 5 7 9; c: 2, 4, 5, 9
        int[][] want = {{0, 7, 3, 3}, {0, 9, 8, 3}, {2, 9, 4, 3}};
        for (int what = 0; what < 4; what++) {
            Due.is("a, what " + what, x.life(0, 0, 0, 0, what), want[0][what]);
            Due.is("a from version 7, what " + what, x.life(0, 0, 7, 0, what), want[0][what]);
            Due.is("b, what " + what, x.life(0, 0, 0, 1, what), want[1][what]);
            Due.is("b at another place, what " + what, x.life(0, 0, 1, 0, what), want[1][what]);
            Due.is("c, what " + what, x.life(0, 0, 9, 0, what), want[2][what]);
        }
        int[] one = {0, 0, 1, 1};
        for (int what = 0; what < 4; what++) {
            Due.is("of one version, what " + what, x.life(0, 1, 0, 0, what), one[what]);
        }
    }

    private static void lifeNoneSuch() {
        Due.sentence("LIFE, what 0: the first, 1: the last, 2: how many, 3: rows. NONE: there is none such (of any), or for another what.");
        VersionSearch x = told(ARCHIVE);
        for (int far : FAR) {
            Due.is("what " + far, x.life(0, 0, 0, 0, far), NONE);
            Due.is("place " + far, x.life(0, 0, 0, far, 2), NONE);
            Due.is("version " + far, x.life(0, 0, far, 0, 2), NONE);
            Due.is("document " + far, x.life(0, far, 0, 0, 2), NONE);
            Due.is("archive " + far, x.life(far, 0, 0, 0, 2), NONE);
        }
        Due.is("what 3", x.life(0, 0, 0, 0, 3), 1);
        Due.is("what 4", x.life(0, 0, 0, 0, 4), NONE);
        Due.is("place 3", x.life(0, 0, 0, 3, 2), 3);
        Due.is("place 4", x.life(0, 0, 0, 4, 2), NONE);
        Due.is("place 3 of three words", x.life(0, 0, 2, 3, 2), NONE);
        Due.is("version 3", x.life(0, 0, 3, 0, 2), 4);
        Due.is("version 4", x.life(0, 0, 4, 0, 2), NONE);
        Due.is("document 1", x.life(0, 1, 1, 1, 2), 2);
        Due.is("document 2", x.life(0, 2, 0, 0, 2), NONE);
        Due.is("archive 1", x.life(1, 0, 0, 0, 2), NONE);
        Due.text(x, 0, 0, "doc;");
        Due.is("of no words", x.life(0, 0, 0, 0, 2), NONE);
    }

    private static void wordsByLetters() {
        Due.sentence("WORDS of an ARCHIVE, by letters (a beginning first)");
        VersionSearch x = told("doc zz b ab z abcd a abc aa azzz ba aaaa;doc zzzz aab;");
        String[] order = {"a", "aa", "aaaa", "aab", "ab", "abc", "abcd", "azzz", "b", "ba", "z", "zz", "zzzz"};
        for (int k = 0; k < order.length; k++) {
            Due.is("word " + k, x.word(0, k, 0), Due.word(order[k]));
        }
        Due.is("no more words", x.word(0, order.length, 0), NONE);
        Due.is("how many", x.archive(0, 7), order.length);
    }

    private static void wordsEachOnce() {
        Due.sentence("each once: how many; the k-th");
        VersionSearch x = told("doc b a b;doc a b;put 0 0 a c;cut 0 0 5;");
        for (int k = 0; k < 3; k++) {
            Due.is("word " + k, x.word(0, k, 0), k + 1);
        }
        Due.is("no word 3", x.word(0, 3, 0), NONE);
    }

    private static void wordVersions() {
        Due.sentence("in how many VERSIONS it is");
        VersionSearch x = told("doc a a b;cut 0 0 1;cut 0 0 1;put 0 0 a c;doc a;back 0 0;put 1 0 a a;");
        int[] want = {6, 5, 1};
        for (int k = 0; k < 3; k++) {
            Due.is("word " + k, x.word(0, k, 1), want[k]);
        }
    }

    private static void wordDocuments() {
        Due.sentence("in which DOCUMENTS (bits)");
        VersionSearch x = told("doc a;doc a b;doc c b;doc a d;cut 3 0 1;cut 0 0 1;");
        int[] want = {1 + 2 + 8, 2 + 4, 4, 8};
        for (int k = 0; k < 4; k++) {
            Due.is("word " + k, x.word(0, k, 2), want[k]);
        }
    }

    private static void wordFirstDate() {
        Due.sentence("the DATE of the first VERSION in which it is");
        VersionSearch x = told("doc d;doc d b;put 0 0 c;put 1 0 c;put 0 0 a b;back 0 0;put 0 0 e;");
        int[] want = {4, 1, 2, 0, 6};
        for (int k = 0; k < want.length; k++) {
            Due.is("word " + k, x.word(0, k, 3), want[k]);
        }
        VersionSearch w = told("doc c;put 0 0 a;put 0 0;doc b a;put 1 0 b;back 0 1;put 1 0 c;");
        int[] first = {1, 3, 0};
        for (int k = 0; k < first.length; k++) {
            Due.is("word " + k + " of several versions", w.word(0, k, 3), first[k]);
        }
        VersionSearch y = told("doc;doc;doc;doc z;put 0 0 y;put 1 0 z;");
        Due.is("of a later document", y.word(0, 1, 3), 3);
        Due.is("of a later version", y.word(0, 0, 3), 4);
    }

    private static void spread() {
        Due.sentence("SPREAD of a WORD (the k-th): the greatest number of times it is in one VERSION");
        VersionSearch x = told("doc a b a;put 0 0 a b;doc b;cut 0 0 1;put 1 1 c c c c;cut 1 1 4;doc a a;");
        int[] want = {3, 2, 4};
        for (int k = 0; k < 3; k++) {
            Due.is("word " + k, x.word(0, k, 4), want[k]);
        }
        Due.is("of one", told("doc;doc b;").word(0, 0, 4), 1);
        VersionSearch y = told("doc b;put 0 0 a a;put 0 0 a;");
        Due.is("a, of one document", y.word(0, 0, 4), 3);
        Due.is("b, of one document", y.word(0, 1, 4), 1);
        VersionSearch z = told("doc b;doc b;put 1 0 b a;put 1 0 a;put 1 0 b;cut 1 0 4;");
        Due.is("a, of a later document", z.word(0, 0, 4), 2);
        Due.is("b, of a later document", z.word(0, 1, 4), 3);
        Due.is("not of two versions together", told("doc a;back 0 0;doc a;").word(0, 0, 4), 1);
    }

    private static void wordNoneSuch() {
        Due.sentence("Of the k-th WORD by letters .. NONE: not so many, there is none such, or for another what.");
        VersionSearch x = told(ARCHIVE);
        for (int far : FAR) {
            Due.is("k " + far, x.word(0, far, 0), NONE);
            Due.is("what " + far, x.word(0, 0, far), NONE);
            Due.is("archive " + far, x.word(far, 0, 0), NONE);
        }
        Due.is("k 3", x.word(0, 3, 0), 4);
        Due.is("k 4", x.word(0, 4, 0), NONE);
        Due.is("what 4", x.word(0, 0, 4), 2);
        Due.is("what 5", x.word(0, 0, 5), NONE);
        Due.is("archive 1", x.word(1, 0, 0), NONE);
        Due.text(x, 0, 0, "doc a;");
        Due.is("no word of a text that was", x.word(0, 1, 0), NONE);
        Due.text(x, 0, 0, "doc;");
        Due.is("of no words", x.word(0, 0, 0), NONE);
    }

    private static void dated() {
        Due.sentence("DATED of a date: the DOCUMENT of the VERSION of that DATE (none: none)");
        VersionSearch x = told(ARCHIVE);
        int[] want = {0, 1, 0, 0, 0, 1};
        for (int date = 0; date < 100; date++) {
            Due.is("date " + date, x.dated(0, date), date < want.length ? want[date] : NONE);
        }
        Due.sentence("DATED. NONE: none, or there is none such.");
        for (int far : FAR) {
            Due.is("date " + far, x.dated(0, far), NONE);
            Due.is("archive " + far, x.dated(far, 0), NONE);
        }
        Due.is("archive 1", x.dated(1, 0), NONE);
        Due.text(x, 0, 0, "doc;");
        Due.is("of a text that was", x.dated(0, 1), NONE);
        Due.text(x, 0, 0, "");
        Due.is("of no versions", x.dated(0, 0), NONE);
    }

    private static void shared() {
        Due.sentence("SHARED of two VERSIONS of a DOCUMENT: how many TOKENS are in both");
        VersionSearch x = told("doc a b c;cut 0 0 1;move 0 0 1;cut 0 0 2;back 0 0;put 0 0 a;doc a b c;");
        int[][] want = {{3, 2, 2, 0, 3, 3}, {2, 2, 2, 0, 2, 2}, {2, 2, 2, 0, 2, 2}, {0, 0, 0, 0, 0, 0}, {3, 2, 2, 0, 3, 3}, {3, 2, 2, 0, 3, 4}};
        for (int a = 0; a < want.length; a++) {
            for (int b = 0; b < want.length; b++) {
                Due.is("versions " + a + " " + b, x.shared(0, 0, a, b), want[a][b]);
            }
        }
        VersionSearch y = told("doc a b c;cut 0 0 2;doc a b c d;move 1 0 3;cut 1 0 1;put 1 0 a a;");
        int[][] later = {{4, 4, 3, 3}, {4, 4, 3, 3}, {3, 3, 3, 3}, {3, 3, 3, 5}};
        for (int a = 0; a < later.length; a++) {
            for (int b = 0; b < later.length; b++) {
                Due.is("versions " + a + " " + b + " of a later document", y.shared(0, 1, a, b), later[a][b]);
            }
        }
        Due.text(y, 0, NONE, "doc a;put 0 0 a;doc b;");
        Due.is("of another archive", y.shared(1, 0, 0, 1), 1);
        Due.is("of a later document of another archive", y.shared(1, 1, 0, 0), 1);
    }

    private static void sharedNoneSuch() {
        Due.sentence("SHARED. NONE: there is none such (of any).");
        VersionSearch x = told(ARCHIVE);
        for (int far : FAR) {
            Due.is("a " + far, x.shared(0, 0, far, 0), NONE);
            Due.is("b " + far, x.shared(0, 0, 0, far), NONE);
            Due.is("document " + far, x.shared(0, far, 0, 0), NONE);
            Due.is("archive " + far, x.shared(far, 0, 0, 0), NONE);
        }
        Due.is("versions 3", x.shared(0, 0, 3, 3), 4);
        Due.is("a 4", x.shared(0, 0, 4, 0), NONE);
        Due.is("b 4", x.shared(0, 0, 0, 4), NONE);
        Due.is("a 2 of document 1", x.shared(0, 1, 2, 0), NONE);
        Due.is("b 2 of document 1", x.shared(0, 1, 0, 2), NONE);
        Due.is("document 2", x.shared(0, 2, 0, 0), NONE);
        Due.is("archive 1", x.shared(1, 0, 0, 0), NONE);
    }

    private static void common() {
        Due.sentence("COMMON of two VERSIONS .. the longest row of WORDS that can be left of each by leaving out others: how many");
        String[][] rows = {
            {"", "", "0"}, {"", "a", "0"}, {"a", "", "0"}, {"a", "a", "1"}, {"a", "b", "0"}, {"a b", "b a", "1"}, {"a b", "a b", "2"}, {"a a", "a", "1"},
            {"a b c", "c b a", "1"}, {"a x b y c", "a b c", "3"}, {"a b c", "x a y b z c", "3"}, {"a b c d", "b d a c", "2"}, {"a b a b", "b a b a", "3"},
            {"a b c b d a b", "b d c a b a", "4"}, {"ab", "a b", "0"}};
        for (String[] row : rows) {
            VersionSearch x = told("doc " + row[0] + ";doc " + row[1] + ";");
            Due.is(row[0] + " and " + row[1], x.common(0, 0, 0, 1, 0), Integer.parseInt(row[2]));
            Due.is(row[1] + " and " + row[0], x.common(0, 1, 0, 0, 0), Integer.parseInt(row[2]));
        }
        VersionSearch x = told("doc" + " a b".repeat(10) + ";doc" + " b a".repeat(10) + ";");
        Due.is("of twenty and twenty", x.common(0, 0, 0, 1, 0), 19);
        Due.is("of twenty and itself", x.common(0, 0, 0, 0, 0), 20);
    }

    private static void commonOfWhicheverDocuments() {
        Due.sentence("of whichever DOCUMENTS");
        VersionSearch x = told("doc a b c;cut 0 1 1;doc c a;put 1 2 c;");
        Due.is("0 0, 0 1", x.common(0, 0, 0, 0, 1), 2);
        Due.is("0 1, 0 0", x.common(0, 0, 1, 0, 0), 2);
        Due.is("0 0, 1 0", x.common(0, 0, 0, 1, 0), 1);
        Due.is("0 0, 1 1", x.common(0, 0, 0, 1, 1), 2);
        Due.is("1 1, 0 1", x.common(0, 1, 1, 0, 1), 2);
        Due.is("1 0, 1 1", x.common(0, 1, 0, 1, 1), 2);
        Due.is("1 1, 1 1", x.common(0, 1, 1, 1, 1), 3);
        VersionSearch y = told("doc a;cut 0 0 1;put 0 0 a;");
        Due.is("of words, whichever tokens", y.common(0, 0, 0, 0, 2), 1);
        VersionSearch z = told("doc a b c;cut 0 0 1;put 0 2 d e;cut 0 0 1;doc d c e b;put 1 0 e;cut 1 2 2;");
        // Rows abc, bc, bcde, cde; dceb, edceb, edb.
        int[][] want = {
            {3, 2, 2, 1, 1, 1, 1}, {2, 2, 2, 1, 1, 1, 1}, {2, 2, 4, 3, 2, 2, 1}, {1, 1, 3, 3, 2, 2, 1}, {1, 1, 2, 2, 4, 4, 2},
            {1, 1, 2, 2, 4, 5, 3}, {1, 1, 1, 1, 2, 3, 3}};
        for (int i = 0; i < 7; i++) {
            for (int j = 0; j < 7; j++) {
                Due.is("rows " + i + " " + j, z.common(0, i / 4, i % 4, j / 4, j % 4), want[i][j]);
            }
        }
    }

    private static void commonNoneSuch() {
        Due.sentence("COMMON of VERSION v of DOCUMENT a, VERSION w of DOCUMENT b. NONE: there is none such (of any).");
        VersionSearch x = told(ARCHIVE);
        for (int far : FAR) {
            Due.is("a " + far, x.common(0, far, 0, 0, 0), NONE);
            Due.is("v " + far, x.common(0, 0, far, 0, 0), NONE);
            Due.is("b " + far, x.common(0, 0, 0, far, 0), NONE);
            Due.is("w " + far, x.common(0, 0, 0, 0, far), NONE);
            Due.is("archive " + far, x.common(far, 0, 0, 0, 0), NONE);
        }
        Due.is("0 3, 1 1", x.common(0, 0, 3, 1, 1), 1);
        Due.is("v 4", x.common(0, 0, 4, 1, 1), NONE);
        Due.is("w 2", x.common(0, 0, 3, 1, 2), NONE);
        Due.is("v 2 of document 1", x.common(0, 1, 2, 0, 3), NONE);
        Due.is("w 4", x.common(0, 1, 1, 0, 4), NONE);
        Due.is("a 2", x.common(0, 2, 0, 0, 0), NONE);
        Due.is("b 2", x.common(0, 0, 0, 2, 0), NONE);
        Due.is("archive 1", x.common(1, 0, 0, 0, 0), NONE);
    }
}
