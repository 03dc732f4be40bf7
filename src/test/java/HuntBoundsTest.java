/** The bounds of hunts, drawing, counts and images (Term 4, promises 20 to 25), each by the document's words and on both sides. */
public final class HuntBoundsTest {
    private static final int NONE = VersionSearch.NONE;
    private static final int LEAST = Integer.MIN_VALUE;
    private static final int GREATEST = Integer.MAX_VALUE;
    private static final int[] FAR = {LEAST, LEAST + 10, -100, -10, -2, -1, GREATEST - 10, GREATEST};

    /** Dates 0 .. 5; rows of document 0: abac, adbac, adb, abac, of document 1: bc, cb. */
    private static final String ARCHIVE = "doc a b a c;doc b c;put 0 1 d;cut 0 3 2;back 0 0;move 1 0 1;";

    private static final int CUT = 0;
    private static final int CUT_TOO = 1;
    private static final int PUT = 2;
    private static final int PUT_TOO = 3;
    private static final int MOVE = 4;
    private static final int BACK = 5;

    private HuntBoundsTest() {
    }

    public static void main(String[] args) {
        howManyFacts();
        facts();
        factNoneSuch();
        fitIn();
        fitOut();
        fitNotThere();
        fitByLetters();
        sure();
        ask();
        askOfSeveral();
        fitsNoneSuch();
        drawnNumbers();
        drawnTimes();
        drawnBelow();
        drawnWithoutSign();
        drawnCut();
        drawnPut();
        drawnPutOfTheFirstToken();
        drawnMove();
        drawnBack();
        drawnAtTenVersions();
        drawnAtTwentyWords();
        drawnOfNoWords();
        drawnWithoutTokens();
        drawnWithoutDocuments();
        drawnLeavesAll();
        drawnNoneSuch();
        count();
        image();
        imageOfAll();
        imagesApart();
        again();
        againNoneSuch();
        Due.finish("HuntBoundsTest");
    }

    private static VersionSearch told(String archive, String hunt) {
        return Due.with(archive, "", hunt);
    }

    private static void howManyFacts() {
        Due.sentence("How many FACTS (k NONE, what 0)");
        VersionSearch x = told("", "in 0 0;out 1 1;in 2 2;");
        Due.is("k NONE, what 0", x.fact(0, NONE, 0), 3);
        for (int what : new int[] {LEAST, -2, -1, 1, 2, 3, GREATEST}) {
            Due.is("k NONE, what " + what, x.fact(0, NONE, what), -2);
        }
        Due.text(x, 2, NONE, "");
        Due.is("of none", x.fact(1, NONE, 0), 0);
        Due.is("the first of none", x.fact(1, 0, 0), -2);
        Due.text(x, 2, 0, "out 0 0;");
        Due.is("of one", x.fact(0, NONE, 0), 1);
        Due.is("none of those that were", x.fact(0, 1, 0), -2);
    }

    private static void facts() {
        Due.sentence("of FACT k, what 0: 1 in, 0 out, 1: the DOCUMENT, 2: the VERSION");
        VersionSearch x = told("", "in 0 0;out 0 0;in 3 9;out 3 9;out 1 2;in 2 1;in 0 9;out 3 0;");
        int[][] want = {{1, 0, 0}, {0, 0, 0}, {1, 3, 9}, {0, 3, 9}, {0, 1, 2}, {1, 2, 1}, {1, 0, 9}, {0, 3, 0}};
        for (int k = 0; k < want.length; k++) {
            for (int what = 0; what < 3; what++) {
                Due.is("fact " + k + ", what " + what, x.fact(0, k, what), want[k][what]);
            }
        }
    }

    private static void factNoneSuch() {
        Due.sentence("FACT k .. -2: there is none such (of either), or for another what.");
        VersionSearch x = told("", "in 0 0;out 0 0;");
        for (int far : FAR) {
            Due.is("what " + far, x.fact(0, 0, far), -2);
            Due.is("k " + far, x.fact(0, far, 1), -2);
            Due.is("hunt " + far, x.fact(far, 0, 0), -2);
            Due.is("how many of hunt " + far, x.fact(far, NONE, 0), -2);
        }
        Due.is("what 2", x.fact(0, 1, 2), 0);
        Due.is("what 3", x.fact(0, 1, 3), -2);
        Due.is("what 3 of the first", x.fact(0, 0, 3), -2);
        Due.is("k 1", x.fact(0, 1, 0), 0);
        Due.is("k 2", x.fact(0, 2, 0), -2);
        Due.is("hunt 1", x.fact(1, NONE, 0), -2);
    }

    /** The words that fit, as a text with blanks between. */
    private static void fit(String archive, String hunt, String words) {
        VersionSearch x = told(archive, hunt);
        String[] due = words.isEmpty() ? new String[0] : words.split(" ");
        String call = hunt + " in " + archive;
        Due.is(call + ", how many", x.fits(0, 0, 0), due.length);
        for (int k = 0; k < due.length; k++) {
            Due.is(call + ", word " + k, x.fits(0, 0, 10 + k), Due.word(due[k]));
        }
        Due.is(call + ", not so many", x.fits(0, 0, 10 + due.length), -2);
    }

    private static void fitIn() {
        Due.sentence("WORDS FIT that are in each VERSION told by in");
        String archive = "doc a b c;doc b c d;put 0 0 d;cut 0 1 1;";
        fit(archive, "", "a b c d");
        fit(archive, "in 0 0;", "a b c");
        fit(archive, "in 1 0;", "b c d");
        fit(archive, "in 0 0;in 1 0;", "b c");
        fit(archive, "in 0 2;", "b c d");
        fit(archive, "in 0 2;in 0 0;in 0 2;", "b c");
        fit("doc a;cut 0 0 1;", "in 0 0;", "a");
        fit("doc a;cut 0 0 1;", "in 0 1;", "");
        fit("doc a;doc;doc;doc b;" + "put3 0;".repeat(9), "in 3 9;", "b");
    }

    private static void fitOut() {
        Due.sentence("in none told by out");
        String archive = "doc a b c;doc b c d;put 0 0 d;cut 0 1 1;";
        fit(archive, "out 0 0;", "d");
        fit(archive, "out 1 0;", "a");
        fit(archive, "out 0 0;out 1 0;", "");
        fit(archive, "out 0 2;", "a");
        fit(archive, "in 0 0;out 1 0;", "a");
        fit(archive, "in 1 0;out 0 0;", "d");
        fit(archive, "in 0 0;out 0 0;", "");
        fit(archive, "out 0 1;", "");
        fit("doc a;doc;doc;doc b;" + "put3 0;".repeat(9), "out 3 9;", "a");
    }

    private static void fitNotThere() {
        Due.sentence("(of one that is not there: in never, out always so)");
        String archive = "doc a b;doc a;";
        fit(archive, "in 0 1;", "");
        fit(archive, "in 0 0;in 0 1;", "");
        fit(archive, "out 0 1;", "a b");
        fit(archive, "in 0 0;out 0 1;", "a b");
        fit(archive, "in 2 0;", "");
        fit(archive, "out 2 0;", "a b");
        fit(archive, "in 3 9;", "");
        fit(archive, "out 3 9;", "a b");
        fit(archive, "out 0 9;out 1 0;", "b");
        fit("", "out 0 0;", "");
        fit("", "", "");
        VersionSearch x = told("doc a;put 0 0 b;put 0 0 b;", "in 0 2;");
        Due.is("there", x.fits(0, 0, 0), 2);
        Due.text(x, 0, 0, "doc a;put 0 0 b;");
        Due.is("in a version of a text that was", x.fits(0, 0, 0), 0);
    }

    private static void fitByLetters() {
        Due.sentence("the k-th by letters, as a number");
        fit("doc z b ab a abcd zzzz aa;", "", "a aa ab abcd b z zzzz");
        fit("doc z b ab a;doc b a ab c;", "in 1 0;", "a ab b c");
    }

    private static void sureIs(String archive, String hunt, int want) {
        Due.is(hunt + " in " + archive, told(archive, hunt).fits(0, 0, 1), want);
    }

    private static void sure() {
        Due.sentence("SURE: the first letter, 1 .. 26, if it is one in all that FIT");
        sureIs("doc a;", "", 1);
        sureIs("doc z;", "", 26);
        sureIs("doc za zbcd zzzz z;", "", 26);
        sureIs("doc a ab abc abcd;", "", 1);
        sureIs("doc a ba;", "", NONE);
        sureIs("doc aa b;", "", NONE);
        sureIs("doc a b a;", "", NONE);
        sureIs("doc a ab c;doc c;", "out 1 0;", 1);
        sureIs("doc a b;doc b;", "in 1 0;", 2);
        sureIs("doc a;", "out 0 0;", NONE);
        sureIs("doc;", "", NONE);
        sureIs("", "", NONE);
    }

    private static void askIs(String archive, String hunt, int want) {
        Due.is(hunt + " in " + archive, told(archive, hunt).fits(0, 0, 2), want);
    }

    private static void ask() {
        Due.sentence("ASK: the VERSION (10 times its DOCUMENT, and it) such that of all that FIT the greater number by which they are in it, or not, is least");
        askIs("doc a b c d;doc a;doc a b;doc a b c;", "", 20);
        askIs("doc a b c d;cut 0 0 3;put 0 0 c;cut 0 0 2;", "", 2);
        askIs("doc a b c d;doc a b c;doc;doc a;" + "put3 0;".repeat(8) + "put 3 0 b;", "", 39);
        askIs("doc a b c d e;doc a b c d;doc a b;", "", 20);
        askIs("doc a b c d e;doc a b c d;doc a b c;", "", 20);
        askIs("doc a b c d;doc a b;doc c;", "in 1 0;", 0);
        askIs("doc a b c d;doc a b;doc d a;", "in 1 0;", 20);
        askIs("doc a;", "out 0 0;", NONE);
        askIs("doc;", "", NONE);
        askIs("", "", NONE);
    }

    private static void askOfSeveral() {
        Due.sentence("is least, of several the least");
        askIs("doc a;", "", 0);
        askIs("doc a;put 0 0;doc;", "", 0);
        askIs("doc a b;doc a;doc b;", "", 10);
        askIs("doc a b c;doc a;doc a b;", "", 10);
        askIs("doc a b c;doc a b;doc a;", "", 10);
        askIs("doc a b;put 0 0;cut 0 0 1;back 0 0;cut 0 1 1;", "", 2);
        askIs("doc a b;doc;put 0 0;cut 0 0 1;", "in 0 0;in 0 1;", 2);
    }

    private static void fitsNoneSuch() {
        Due.sentence("What 0: how many FIT, 1: SURE (NONE: not one, or nothing FITS), 2: ASK (NONE: nothing FITS), 10 + k: the k-th, as a number. -2: there is none such (of any), or for another what.");
        VersionSearch x = told(ARCHIVE, "out 0 9;");
        for (int what = 3; what < 40; what++) {
            Due.is("what " + what, x.fits(0, 0, what), what >= 10 && what < 14 ? what - 9 : -2);
        }
        for (int far : FAR) {
            Due.is("what " + far, x.fits(0, 0, far), -2);
            Due.is("hunt " + far, x.fits(0, far, 0), -2);
            Due.is("archive " + far, x.fits(far, 0, 0), -2);
        }
        Due.is("what 0", x.fits(0, 0, 0), 4);
        Due.is("what 1", x.fits(0, 0, 1), NONE);
        Due.is("what 2", x.fits(0, 0, 2), 10);
        Due.is("hunt 1", x.fits(0, 1, 0), -2);
        Due.is("archive 1", x.fits(1, 0, 0), -2);
        Due.text(x, 2, NONE, "in 0 9;");
        int[] nothing = {0, NONE, NONE, -2, -2, -2, -2, -2, -2, -2, -2, -2};
        for (int what = 0; what < nothing.length; what++) {
            Due.is("nothing fits, what " + what, x.fits(0, 1, what), nothing[what]);
        }
        Due.is("the other hunt stays", x.fits(0, 0, 0), 4);
    }

    // ---- drawing: the document's numbers, drawn here one by one

    private static int x;

    private static int draw(int n) {
        x = x * 1103515245 + 12345;
        return (x >>> 16) % n;
    }

    /** The least seed from one on by which the first time is of this document and this deed. */
    private static int seedFrom(int from, int documents, int document, int deed) {
        for (int seed = from; seed < from + 100_000; seed++) {
            x = seed;
            if (draw(documents) == document && draw(6) == deed) {
                return seed;
            }
        }
        throw new IllegalStateException("no seed");
    }

    private static void drawnIs(VersionSearch s, int seed, int n, int document, int versions, int tokens, String row) {
        String call = "drawn by " + seed + ", " + n + " times, of " + document;
        Due.is(call + ", VERSIONS", s.drawn(0, seed, n, document, 0), versions);
        Due.is(call + ", WORDS", s.drawn(0, seed, n, document, 1), row.length());
        Due.is(call + ", TOKENS", s.drawn(0, seed, n, document, 2), tokens);
        for (int p = 0; p < row.length(); p++) {
            Due.is(call + ", place " + p, s.drawn(0, seed, n, document, 10 + p), row.charAt(p) - 'a' + 1);
        }
        Due.is(call + ", behind", s.drawn(0, seed, n, document, 10 + row.length()), NONE);
    }

    private static void drawnNumbers() {
        Due.sentence("DRAWN, n times, of a DOCUMENT, what 0: VERSIONS, 1: WORDS of its latest one, 2: its TOKENS (of all VERSIONS), 10 + p: the WORD at a PLACE");
        VersionSearch s = told(ARCHIVE + "cut 0 0 2;", "");
        drawnIs(s, 7, 0, 0, 5, 5, "ac");
        drawnIs(s, 7, 0, 1, 2, 2, "cb");
        for (int what = 3; what < 10; what++) {
            Due.is("what " + what, s.drawn(0, 7, 0, 0, what), NONE);
        }
        for (int what = 12; what < 40; what++) {
            Due.is("what " + what, s.drawn(0, 7, 0, 0, what), NONE);
        }
        VersionSearch t = told("doc" + " a".repeat(19) + " z;", "");
        Due.is("place 19", t.drawn(0, 7, 0, 0, 29), 26);
        Due.is("place 20", t.drawn(0, 7, 0, 0, 30), NONE);
    }

    private static void drawnTimes() {
        Due.sentence("n times, 0 to 40");
        // Of a document without tokens only back makes a version.
        VersionSearch s = told("doc;", "");
        int seed = lastBack();
        for (int n = 0; n < 40; n++) {
            Due.is("n " + n, s.drawn(0, seed, n, 0, 0), 1);
        }
        Due.is("n 40", s.drawn(0, seed, 40, 0, 0), 2);
        for (int n : new int[] {LEAST, -40, -2, -1, 41, 42, 80, GREATEST}) {
            Due.is("n " + n, s.drawn(0, 7, n, 0, 0), NONE);
        }
    }

    /** A seed by which the 40th of all times is the first back. */
    private static int lastBack() {
        for (int seed = 0; seed < 10_000_000; seed++) {
            x = seed;
            int times = 0;
            boolean back = false;
            while (times < 40 && !back) {
                draw(1);
                back = draw(6) == BACK;
                times++;
            }
            if (back && times == 40) {
                return seed;
            }
        }
        throw new IllegalStateException("no seed");
    }

    private static void drawnBelow() {
        Due.sentence("a DOCUMENT, below all, a number below 6");
        String row = "abcd";
        for (int documents = 1; documents <= 4; documents++) {
            VersionSearch s = told("doc a b c d;".repeat(documents), "");
            for (int document = 0; document < documents; document++) {
                int seed = seedFrom(0, documents, document, BACK);
                for (int other = 0; other < documents; other++) {
                    drawnIs(s, seed, 1, other, other == document ? 2 : 1, 4, row);
                }
                int cut = seedFrom(0, documents, document, CUT);
                Due.is("cut of " + document, s.drawn(0, cut, 1, document, 1), 3);
                Due.is("not of another", s.drawn(0, cut, 1, (document + 1) % documents, 1), documents == 1 ? 3 : 4);
            }
        }
    }

    private static void drawnWithoutSign() {
        Due.sentence("x becomes x * 1103515245 + 12345 (of 32 bits), it is x shifted right by 16 without sign, remainder by n");
        for (int seed : new int[] {LEAST, LEAST + 1, -2, -1, 0, 1, 2, 12345, GREATEST - 1, GREATEST}) {
            VersionSearch s = told("doc a b c d e f g;doc h i j;doc k l m n o;", "");
            for (int n = 1; n <= 4; n++) {
                drawnAsHere(s, seed, n);
            }
        }
    }

    private static void drawnAsHere(VersionSearch s, int seed, int n) {
        String[] rows = {"abcdefg", "hij", "klmno"};
        String[] first = {"abcdefg", "hij", "klmno"};
        String[] all = {"abcdefg", "hij", "klmno"};
        int[] tokens = {7, 3, 5};
        int[] versions = {1, 1, 1};
        x = seed;
        for (int i = 0; i < n; i++) {
            int d = draw(3);
            int deed = draw(6);
            StringBuilder row = new StringBuilder(rows[d]);
            if (deed == CUT || deed == CUT_TOO) {
                row.deleteCharAt(draw(row.length()));
            } else if (deed == PUT || deed == PUT_TOO) {
                row.insert(draw(row.length() + 1), first[d].charAt(0));
                tokens[d]++;
            } else if (deed == MOVE) {
                int from = draw(rows[d].length());
                row.deleteCharAt(from).insert(draw(rows[d].length()), rows[d].charAt(from));
            } else {
                row = new StringBuilder(all[d].split(" ")[draw(versions[d])]);
            }
            rows[d] = row.toString();
            all[d] += " " + row;
            versions[d]++;
        }
        for (int d = 0; d < 3; d++) {
            drawnIs(s, seed, n, d, versions[d], tokens[d], rows[d]);
        }
    }

    private static void drawnCut() {
        Due.sentence("0, 1: cut: a PLACE, below how many WORDS it has, that one");
        VersionSearch s = told("doc z;put 0 0 a b c;cut 0 3 1;", "");
        for (int deed : new int[] {CUT, CUT_TOO}) {
            for (int from = 0; from < 1000; from += 100) {
                int seed = seedFrom(from, 1, 0, deed);
                drawnIs(s, seed, 1, 0, 4, 4, new StringBuilder("abc").deleteCharAt(draw(3)).toString());
            }
            drawnIs(told("doc a;", ""), seedFrom(0, 1, 0, deed), 1, 0, 2, 1, "");
        }
    }

    private static void drawnPut() {
        Due.sentence("2, 3: put: a PLACE, below how many and 1");
        VersionSearch s = told("doc a b c;", "");
        boolean[] places = new boolean[4];
        for (int deed : new int[] {PUT, PUT_TOO}) {
            for (int from = 0; from < 2000; from += 100) {
                int seed = seedFrom(from, 1, 0, deed);
                int place = draw(4);
                places[place] = true;
                drawnIs(s, seed, 1, 0, 2, 4, new StringBuilder("abc").insert(place, 'a').toString());
            }
        }
        Due.is("at the front, at the end, too", places[0] && places[1] && places[2] && places[3], true);
    }

    private static void drawnPutOfTheFirstToken() {
        Due.sentence("the WORD of the first TOKEN of the DOCUMENT that was ever told, a new TOKEN");
        for (int deed : new int[] {PUT, PUT_TOO}) {
            drawnIs(told("doc z;cut 0 0 1;", ""), seedFrom(0, 1, 0, deed), 1, 0, 3, 2, "z");
            drawnIs(told("doc;put 0 0 y;put 0 0 z;cut 0 0 2;", ""), seedFrom(0, 1, 0, deed), 1, 0, 5, 3, "y");
            drawnIs(told("doc a;doc b;", ""), seedFrom(0, 2, 1, deed), 1, 1, 2, 2, "bb");
            drawnIs(told("doc;doc b;put 0 0 c;cut 1 0 1;", ""), seedFrom(0, 2, 0, deed), 1, 0, 3, 2, "cc");
            drawnIs(told("doc b c;cut 0 0 2;", ""), seedFrom(0, 1, 0, deed), 1, 0, 3, 3, "b");
        }
    }

    private static void drawnMove() {
        Due.sentence("4: move: two PLACES, below how many");
        VersionSearch s = told("doc a b c;", "");
        boolean[] places = new boolean[9];
        for (int from = 0; from < 6000; from += 100) {
            int seed = seedFrom(from, 1, 0, MOVE);
            int out = draw(3);
            int to = draw(3);
            places[3 * out + to] = true;
            StringBuilder row = new StringBuilder("abc").deleteCharAt(out).insert(to, "abc".charAt(out));
            drawnIs(s, seed, 1, 0, 2, 3, row.toString());
        }
        Due.is("to the end", places[2], true);
        Due.is("to the front", places[6], true);
        drawnIs(told("doc a;", ""), seedFrom(0, 1, 0, MOVE), 1, 0, 2, 1, "a");
        VersionSearch less = told("doc a b c d e;cut 0 0 2;", "");
        VersionSearch more = told("doc;put 0 0 a b;put 0 0 c d e;back 0 1;", "");
        for (int from = 0; from < 3000; from += 100) {
            int seed = seedFrom(from, 1, 0, MOVE);
            int out = draw(3);
            StringBuilder row = new StringBuilder("cde").deleteCharAt(out).insert(draw(3), "cde".charAt(out));
            drawnIs(less, seed, 1, 0, 3, 5, row.toString());
            seedFrom(from, 1, 0, MOVE);
            int first = draw(2);
            drawnIs(more, seed, 1, 0, 5, 5, first == draw(2) ? "ab" : "ba");
        }
    }

    private static void drawnBack() {
        Due.sentence("5: back: a VERSION, below how many there are");
        VersionSearch s = told("doc a;put 0 1 b;put 0 2 c;put 0 3 d;", "");
        boolean[] versions = new boolean[4];
        for (int from = 0; from < 3000; from += 100) {
            int seed = seedFrom(from, 1, 0, BACK);
            int version = draw(4);
            versions[version] = true;
            drawnIs(s, seed, 1, 0, 5, 4, "abcd".substring(0, version + 1));
        }
        Due.is("the first, the latest one, too", versions[0] && versions[3], true);
    }

    private static void drawnAtTenVersions() {
        Due.sentence("each, if it may be told so (at 10 VERSIONS nothing is)");
        VersionSearch nine = told("doc a b c;" + "put0 0;".repeat(8), "");
        VersionSearch ten = told("doc a b c;" + "put0 0;".repeat(9), "");
        for (int deed = CUT; deed <= BACK; deed++) {
            int seed = seedFrom(50, 1, 0, deed);
            Due.is("at 9 VERSIONS, deed " + deed, nine.drawn(0, seed, 1, 0, 0), 10);
            drawnIs(ten, seed, 1, 0, 10, 3, "abc");
            drawnIs(ten, seed, 40, 0, 10, 3, "abc");
            Due.is("no 11th by 40 times, deed " + deed, nine.drawn(0, seed, 40, 0, 0), 10);
        }
        // Nothing is told there, but the numbers are drawn all the same: the next deed is by those behind them.
        VersionSearch two = told("doc a b c;" + "put0 0;".repeat(9) + "doc d e f;", "");
        int[] numbers = {1, 1, 1, 1, 2, 1};
        int[] below = {3, 3, 4, 4, 3, 10};
        for (int deed = CUT; deed <= BACK; deed++) {
            int seed = 0;
            boolean cut = false;
            while (!cut) {
                seed = seedFrom(seed + 1, 2, 0, deed);
                for (int i = 0; i < numbers[deed]; i++) {
                    draw(below[deed]);
                }
                cut = draw(2) == 1 && draw(6) == CUT;
            }
            drawnIs(two, seed, 2, 1, 2, 3, new StringBuilder("def").deleteCharAt(draw(3)).toString());
        }
    }

    private static void drawnAtTwentyWords() {
        Due.sentence("each, if it may be told so");
        String nineteen = "a".repeat(18) + "b";
        VersionSearch less = told("doc" + " a".repeat(18) + " b;", "");
        VersionSearch full = told("doc" + " a".repeat(19) + " b;", "");
        for (int deed : new int[] {PUT, PUT_TOO}) {
            int seed = seedFrom(0, 1, 0, deed);
            drawnIs(less, seed, 1, 0, 2, 20, new StringBuilder(nineteen).insert(draw(20), 'a').toString());
            drawnIs(full, seed, 1, 0, 1, 20, "a" + nineteen);
            int then = 0;
            boolean cut = false;
            while (!cut) {
                then = seedFrom(then + 1, 1, 0, deed);
                draw(21);
                draw(1);
                cut = draw(6) == CUT;
            }
            drawnIs(full, then, 2, 0, 2, 20, new StringBuilder("a" + nineteen).deleteCharAt(draw(20)).toString());
        }
        for (int deed : new int[] {CUT, CUT_TOO, MOVE, BACK}) {
            Due.is("deed " + deed, full.drawn(0, seedFrom(0, 1, 0, deed), 1, 0, 0), 2);
        }
    }

    /** A seed by which one deed that draws no more is first, and a second one comes next. */
    private static int seedOfTwo(int deed, int next) {
        for (int seed = 0; seed < 100_000; seed++) {
            x = seed;
            draw(1);
            if (draw(6) == deed && draw(1) == 0 && draw(6) == next) {
                return seed;
            }
        }
        throw new IllegalStateException("no seed");
    }

    private static void drawnOfNoWords() {
        Due.sentence("of no WORDS 0, 1, 4 .. draw no more");
        VersionSearch s = told("doc z;put 0 1 y x;cut 0 0 3;", "");
        for (int deed : new int[] {CUT, CUT_TOO, MOVE}) {
            drawnIs(s, seedFrom(0, 1, 0, deed), 1, 0, 3, 3, "");
            int seed = seedOfTwo(deed, BACK);
            int version = draw(3);
            drawnIs(s, seed, 2, 0, 4, 3, new String[] {"z", "zyx", ""}[version]);
            drawnIs(s, seedOfTwo(deed, PUT), 2, 0, 4, 4, "z");
        }
        for (int deed : new int[] {PUT, PUT_TOO, BACK}) {
            Due.is("deed " + deed, s.drawn(0, seedFrom(0, 1, 0, deed), 1, 0, 0), 4);
        }
    }

    private static void drawnWithoutTokens() {
        Due.sentence("of a DOCUMENT without TOKENS 2, 3 draw no more");
        VersionSearch s = told("doc;put 0 0;", "");
        for (int deed = CUT; deed < BACK; deed++) {
            drawnIs(s, seedFrom(0, 1, 0, deed), 1, 0, 2, 0, "");
            drawnIs(s, seedOfTwo(deed, BACK), 2, 0, 3, 0, "");
        }
        drawnIs(s, seedFrom(0, 1, 0, BACK), 1, 0, 3, 0, "");
        VersionSearch two = told("doc;doc a b c;", "");
        for (int deed = CUT; deed < BACK; deed++) {
            int seed = 0;
            boolean cut = false;
            while (!cut) {
                seed = seedFrom(seed + 1, 2, 0, deed);
                cut = draw(2) == 1 && draw(6) == CUT;
            }
            drawnIs(two, seed, 2, 1, 2, 3, new StringBuilder("abc").deleteCharAt(draw(3)).toString());
            drawnIs(two, seed, 2, 0, 1, 0, "");
        }
    }

    private static void drawnWithoutDocuments() {
        Due.sentence("(Without DOCUMENTS nothing is drawn");
        VersionSearch s = told("", "");
        for (int n = -1; n <= 41; n++) {
            Due.is("n " + n, s.drawn(0, n, n, 0, 0), NONE);
        }
    }

    private static void drawnLeavesAll() {
        Due.sentence("DRAWN by a SEED, x, an ARCHIVE goes on");
        VersionSearch s = told(ARCHIVE, "");
        int before = s.drawn(0, 11, 40, 0, 1);
        for (int seed = 0; seed < 20; seed++) {
            s.drawn(0, seed, 40, seed % 2, 0);
        }
        Due.is("the same call, the same answer", s.drawn(0, 11, 40, 0, 1), before);
        Due.is("versions that are told", s.archive(0, 1), 6);
        Due.is("tokens that are told", s.archive(0, 3), 7);
        Due.is("words that are told", s.archive(0, 2), 20);
    }

    private static void drawnNoneSuch() {
        Due.sentence("NONE: there is none such (of any), another n, or for another what.");
        VersionSearch s = told(ARCHIVE, "");
        for (int far : FAR) {
            Due.is("what " + far, s.drawn(0, 7, 3, 0, far), NONE);
            Due.is("document " + far, s.drawn(0, 7, 3, far, 0), NONE);
            Due.is("n " + far, s.drawn(0, 7, far, 0, 0), NONE);
            Due.is("archive " + far, s.drawn(far, 7, 3, 0, 0), NONE);
        }
        Due.is("document 1", s.drawn(0, 7, 0, 1, 0), 2);
        Due.is("document 2", s.drawn(0, 7, 0, 2, 0), NONE);
        Due.is("archive 1", s.drawn(1, 7, 0, 0, 0), NONE);
    }

    private static void count() {
        Due.sentence("How many there are of a sort. -2 for another one.");
        VersionSearch s = new VersionSearch();
        String[] texts = {"doc;", "phrase a;", "in 0 0;"};
        for (int sort = 0; sort < 3; sort++) {
            for (int have = 0; have < 4; have++) {
                Due.is("sort " + sort, s.count(sort), Math.min(2, have));
                Due.text(s, sort, NONE, texts[sort]);
            }
        }
        for (int sort : new int[] {LEAST, -2, -1, 3, 4, GREATEST}) {
            Due.is("sort " + sort, s.count(sort), -2);
        }
    }

    private static void image() {
        Due.sentence("Image k (0 .. 2) is all that is told (the tape, the FAULT, too), as it is now: true; false for another k");
        VersionSearch s = new VersionSearch();
        for (int k : new int[] {LEAST, -2, -1, 3, 4, GREATEST}) {
            Due.is("image " + k, s.image(k), false);
            Due.is("again " + k, s.again(k), false);
        }
        for (int k = 0; k < 3; k++) {
            Due.is("none such " + k, s.again(k), false);
            Due.is("image " + k, s.image(k), true);
            Due.is("again " + k, s.again(k), true);
        }
        Due.is("of a new object", s.count(0), 0);
    }

    private static void imageOfAll() {
        Due.sentence("all that is told (the tape, the FAULT, too), as it is now");
        VersionSearch s = Due.with(ARCHIVE, "phrase a c;not 0;", "in 0 1;out 0 0;");
        Due.text(s, 0, NONE, "doc z y;");
        Due.text(s, 1, NONE, "many b 2;");
        Due.text(s, 2, NONE, "out 1 1;");
        Due.text(s, 2, 0, "in 0 10;");
        Due.tape(s, "doc q;doc r;");
        s.image(1);
        for (int sort = 0; sort < 3; sort++) {
            s.end(0);
            Due.text(s, sort, 0, "");
            Due.text(s, sort, 1, "");
        }
        Due.tape(s, "doc u v w;");
        Due.is("again", s.again(1), true);
        allAsItWas(s);
        Due.is("the tape's bytes", s.text(0, 1), 1);
        Due.is("as they were", s.version(1, 1, 0, 10), Due.word("r"));
        Due.is("again, behind that", s.again(1), true);
        allAsItWas(s);
    }

    private static void allAsItWas(VersionSearch s) {
        Due.is("the tape", s.end(12), 12);
        Due.is("no more of it", s.end(13), NONE);
        Due.is("the FAULT", s.fault(0), 2);
        Due.is("its place", s.fault(1), 5);
        Due.is("DOCUMENTS", s.archive(0, 0), 2);
        Due.is("SIZE", s.archive(0, 2), 20);
        Due.is("POSTINGS", s.archive(0, 4), 9);
        Due.is("WORDS", s.archive(0, 7), 4);
        Due.is("a word's versions", s.word(0, 3, 1), 2);
        Due.is("KEPT", s.archive(0, 40), 2);
        Due.is("DATE", s.version(0, 1, 1, 1), 5);
        Due.is("a word", s.version(0, 0, 1, 11), 4);
        Due.is("the second archive", s.version(1, 0, 0, 10), 26);
        Due.is("its TOKENS", s.drawn(1, 0, 0, 0, 2), 2);
        Due.is("QUESTIONS", s.question(0, NONE, 0), 2);
        Due.is("a phrase's word", s.question(0, 0, 11), 3);
        Due.is("not", s.question(0, 1, 1), 0);
        Due.is("the second QUESTIONS", s.question(1, 0, 1), 2);
        Due.is("held", s.found(0, 0, 0, 3), 3);
        Due.is("FACTS", s.fact(0, NONE, 0), 2);
        Due.is("a fact", s.fact(0, 0, 2), 1);
        Due.is("the second HUNT", s.fact(1, 0, 1), 1);
        Due.is("what fits", s.fits(0, 0, 10), 4);
    }

    private static void imagesApart() {
        Due.sentence("Image k .. as it is now");
        VersionSearch s = new VersionSearch();
        for (int k = 0; k < 3; k++) {
            Due.text(s, 0, k == 0 ? NONE : 0, "doc a;".repeat(k + 1));
            Due.is("image " + k, s.image(k), true);
        }
        for (int k : new int[] {1, 0, 2, 2, 0, 1}) {
            Due.is("again " + k, s.again(k), true);
            Due.is("documents of " + k, s.archive(0, 0), k + 1);
            Due.text(s, 0, 0, "");
            Due.is("what comes behind it", s.archive(0, 0), 0);
        }
        Due.text(s, 0, 0, "doc;doc;doc;doc;");
        Due.is("image 1 anew", s.image(1), true);
        s.again(0);
        Due.is("image 0 is as it was", s.archive(0, 0), 1);
        s.again(1);
        Due.is("image 1 is as it is now", s.archive(0, 0), 4);
        s.again(2);
        Due.is("image 2 is as it was", s.archive(0, 0), 3);
    }

    private static void again() {
        Due.sentence("All that is as image k has it: true");
        VersionSearch s = new VersionSearch();
        Due.is("image of nothing", s.image(0), true);
        Due.text(s, 0, NONE, "doc a;");
        Due.text(s, 1, NONE, "phrase a;");
        Due.text(s, 2, NONE, "in 0 0;");
        Due.text(s, 2, NONE, "in 0");
        s.feed(1, 2, 3, 4, 5);
        Due.is("image of all", s.image(2), true);
        Due.is("again nothing", s.again(0), true);
        for (int sort = 0; sort < 3; sort++) {
            Due.is("nothing of sort " + sort, s.count(sort), 0);
        }
        Due.is("no archive", s.archive(0, 0), -2);
        Due.is("no FAULT", s.fault(0), 0);
        Due.is("no place", s.fault(1), NONE);
        Due.is("no tape", s.end(1), NONE);
        Due.is("again all", s.again(2), true);
        for (int sort = 0; sort < 3; sort++) {
            Due.is("one of sort " + sort, s.count(sort), 1);
        }
        Due.is("FAULT", s.fault(0), 1);
        Due.is("place", s.fault(1), 4);
        Due.is("tape", s.end(20), 20);
        Due.is("images stay", s.again(0) && s.again(2), true);
    }

    private static void againNoneSuch() {
        Due.sentence("false if there is none such");
        VersionSearch s = told(ARCHIVE, "");
        s.image(1);
        Due.text(s, 0, 0, "doc a;");
        for (int k : new int[] {LEAST, -1, 0, 2, 3, GREATEST}) {
            Due.is("again " + k, s.again(k), false);
            Due.is("nothing changes by " + k, s.archive(0, 1), 1);
        }
        for (int k : new int[] {LEAST, -1, 3, GREATEST}) {
            Due.is("image " + k, s.image(k), false);
        }
        Due.is("again 1", s.again(1), true);
        Due.is("its versions", s.archive(0, 1), 6);
    }
}
