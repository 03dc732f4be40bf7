/** The bounds of questions (Terms 2, 3 and 5, promises 13 to 19), each by the document's words and on both sides. */
public final class QuestionBoundsTest {
    private static final int NONE = VersionSearch.NONE;
    private static final int LEAST = Integer.MIN_VALUE;
    private static final int GREATEST = Integer.MAX_VALUE;
    private static final int[] FAR = {LEAST, LEAST + 10, LEAST + 200, -100, -10, -2, -1, GREATEST - 10, GREATEST};

    /** Dates 0 .. 5; rows of document 0: abac, adbac, adb, abac, of document 1: bc, cb. */
    private static final String ARCHIVE = "doc a b a c;doc b c;put 0 1 d;cut 0 3 2;back 0 0;move 1 0 1;";
    private static final String QUESTIONS = "phrase a c;near a c 2;many a 2;not 0;ever 0;new 1;and 1 3;or 0 2;";

    /** Four documents whose ten versions have the word a by turns; dates 0 .. 39. */
    private static final String BY_TURNS = "doc;put0 0 a;" + "back0 0;back0 1;".repeat(4) + "doc;put1 0 a;" + "back1 0;back1 1;".repeat(4)
            + "doc;put2 0 a;" + "back2 0;back2 1;".repeat(4) + "doc;put3 0 a;" + "back3 0;back3 1;".repeat(4);

    private QuestionBoundsTest() {
    }

    public static void main(String[] args) {
        phraseHolds();
        nearHolds();
        nearAtUnlikePlaces();
        manyHolds();
        notAndOrHold();
        everHolds();
        newHolds();
        questionsOfQuestions();
        documentsApart();
        questionsApart();
        howManyQuestions();
        questionKinds();
        questionNumbers();
        questionWords();
        questionNoneSuch();
        holds();
        holdsNoneSuch();
        spans();
        spansOfTen();
        spansNoneSuch();
        times();
        timesNoneSuch();
        asOf();
        asOfAllDates();
        everAndAlways();
        changes();
        changesAheadOfDate0();
        changesOfForty();
        rankByVersions();
        rankByLatest();
        rankByNumber();
        rankOfALaterQuestion();
        foundNumbers();
        foundNoneSuch();
        best();
        bestOfSeveral();
        same();
        bestNoneSuch();
        implies();
        impliesNoneSuch();
        Due.finish("QuestionBoundsTest");
    }

    private static VersionSearch told(String archive, String questions) {
        return Due.with(archive, questions, "");
    }

    /** Whether a question, the last one told, holds in the one version of a row. */
    private static void heldBy(String row, String questions, int want) {
        VersionSearch x = told("doc " + row + ";", questions);
        Due.is(questions + " in " + row, x.holds(0, 0, x.question(0, NONE, 0) - 1, 0, 0), want);
    }

    /** In which versions of document 0 the last question holds, as a row of 0 and 1. */
    private static void heldIn(String archive, String questions, String want) {
        VersionSearch x = told(archive, questions);
        String got = "";
        for (int version = 0; version < x.archive(0, 10); version++) {
            got += x.holds(0, 0, x.question(0, NONE, 0) - 1, 0, version);
        }
        Due.is(questions + " in " + archive + ": " + got + ", not " + want, got.equals(want), true);
    }

    private static void phraseHolds() {
        Due.sentence("phrase: its WORDS stand there side by side in this row");
        heldBy("a", "phrase a;", 1);
        heldBy("b", "phrase a;", 0);
        heldBy("", "phrase a;", 0);
        heldBy("ab", "phrase a;", 0);
        heldBy("a", "phrase ab;", 0);
        heldBy("a b", "phrase a b;", 1);
        heldBy("b a", "phrase a b;", 0);
        heldBy("a x b", "phrase a b;", 0);
        heldBy("ab", "phrase a b;", 0);
        heldBy("l lz ma n", "phrase m;", 0);
        heldBy("l q n q m p m r", "phrase m q;", 0);
        heldBy("x a b", "phrase a b;", 1);
        heldBy("a b x", "phrase a b;", 1);
        heldBy("a", "phrase a a;", 0);
        heldBy("a a", "phrase a a;", 1);
        heldBy("x a b c", "phrase a b c d;", 0);
        heldBy("x a b c d", "phrase a b c d;", 1);
        heldBy("a b c d", "phrase a b c d;", 1);
        heldBy("a b c x", "phrase a b c d;", 0);
        heldBy("a b a b c", "phrase a b c;", 1);
        heldBy("x ".repeat(16) + "a b c d", "phrase a b c d;", 1);
        heldBy("x ".repeat(17) + "a b c", "phrase a b c d;", 0);
        Due.is("not from one version to the next", told("doc x a;put 0 0 b x;", "phrase a b;").found(0, 0, 0, 0), 0);
    }

    private static void nearHolds() {
        Due.sentence("near: .. that are no more than so far from one another");
        for (int far = 1; far <= 9; far++) {
            String question = "near a b " + far + ";";
            heldBy("a " + "x ".repeat(far - 1) + "b", question, 1);
            heldBy("b " + "x ".repeat(far - 1) + "a", question, 1);
            heldBy("a " + "x ".repeat(far) + "b", question, 0);
            heldBy("b " + "x ".repeat(far) + "a", question, 0);
        }
        heldBy("x ".repeat(10) + "a " + "x ".repeat(8) + "b", "near a b 9;", 1);
        heldBy("a", "near a b 9;", 0);
        heldBy("b", "near a b 9;", 0);
        heldBy("", "near a b 9;", 0);
        heldBy("a x x x x x b a", "near a b 1;", 1);
        // The words themselves, not one ahead of them or behind them by letters.
        for (String other : new String[] {"l", "lz", "ma", "n", "z"}) {
            heldBy(other + " q", "near m q 9;", 0);
            heldBy("q " + other, "near m q 9;", 0);
            heldBy(other + " q", "near q m 9;", 0);
            heldBy("q " + other, "near q m 9;", 0);
        }
        heldBy("m q", "near q m 9;", 1);
        Due.is("not from one version to the next", told("doc x a;put 0 0 b x;back 0 0;", "near a b 2;").holds(0, 0, 0, 0, 0), 0);
    }

    private static void nearAtUnlikePlaces() {
        Due.sentence("near: the first WORD and the second one stand there at two unlike PLACES");
        heldBy("a", "near a a 9;", 0);
        heldBy("x a x", "near a a 1;", 0);
        heldBy("a a", "near a a 1;", 1);
        heldBy("a x a", "near a a 1;", 0);
        heldBy("a x a", "near a a 2;", 1);
    }

    private static void manyHolds() {
        Due.sentence("many: the WORD stands there so many times or more");
        for (int many = 1; many <= 9; many++) {
            heldBy("x" + " a".repeat(many - 1), "many a " + many + ";", 0);
            heldBy("x" + " a".repeat(many), "many a " + many + ";", 1);
            heldBy("x" + " a".repeat(many + 1), "many a " + many + ";", 1);
        }
        heldBy("", "many a 1;", 0);
        heldBy("aa a", "many a 2;", 0);
        heldBy("l lz m ma n", "many m 2;", 0);
    }

    private static void notAndOrHold() {
        Due.sentence("not: the other one does not HOLD there; and: both do; or: one of both does");
        String[] rows = {"x", "a", "b", "a b"};
        int[] both = {0, 0, 0, 1};
        int[] one = {0, 1, 1, 1};
        for (int i = 0; i < rows.length; i++) {
            heldBy(rows[i], "phrase a;phrase b;and 0 1;", both[i]);
            heldBy(rows[i], "phrase a;phrase b;or 0 1;", one[i]);
            heldBy(rows[i], "phrase a;phrase b;not 0;", 1 - i % 2);
            heldBy(rows[i], "phrase a;and 0 0;", i % 2);
            heldBy(rows[i], "phrase a;or 0 0;", i % 2);
        }
        heldBy("", "phrase a;not 0;", 1);
    }

    private static void everHolds() {
        Due.sentence("ever: the other one HOLDS there, or in any VERSION of that DOCUMENT ahead of it");
        heldIn("doc;put 0 0 a;back 0 0;back 0 0;", "phrase a;ever 0;", "0111");
        heldIn("doc a;cut 0 0 1;back 0 1;", "phrase a;ever 0;", "111");
        heldIn("doc;put 0 0;put 0 0 a;", "phrase a;ever 0;", "001");
        heldIn("doc;put 0 0;", "phrase a;ever 0;", "00");
        heldIn("doc;doc a;put 0 0 b;", "phrase a;ever 0;", "00");
        heldIn("doc;" + "put0 0;".repeat(8) + "put0 0 a;", "phrase a;ever 0;", "0000000001");
        heldIn("doc a;cut0 0 1;" + "put0 0;".repeat(8), "phrase a;ever 0;", "1111111111");
        VersionSearch x = told("doc;put 0 0 a;doc b;put 1 0 a;cut 1 0 1;put 1 0;doc a;", "phrase b;phrase a;ever 1;ever 0;");
        int[][] many = {{1, 3, 1}, {0, 4, 0}};
        for (int document = 0; document < 3; document++) {
            Due.is("one span of " + document, x.spans(0, 0, 2, document, NONE, false), 1);
            Due.is("from its first version", x.spans(0, 0, 2, document, 0, false), document == 2 ? 0 : 1);
            Due.is("to the last one", x.spans(0, 0, 2, document, 0, true), new int[] {1, 3, 0}[document]);
        }
        for (int k = 0; k < 2; k++) {
            Due.is("in how many versions", x.found(0, 0, 2 + k, 3), many[k][0] + many[k][1] + many[k][2]);
        }
    }

    private static void newHolds() {
        Due.sentence("new: the other one HOLDS there, and not in the VERSION just ahead (in VERSION 0: if it HOLDS)");
        heldIn("doc a;back 0 0;cut 0 0 1;back 0 0;back 0 2;", "phrase a;new 0;", "10010");
        heldIn("doc;put 0 0 a;put 0 0 a;", "phrase a;new 0;", "010");
        heldIn("doc;put 0 0;", "phrase a;new 0;", "00");
        heldIn("doc;" + "put0 0;".repeat(8) + "put0 0 a;", "phrase a;new 0;", "0000000001");
        VersionSearch x = told("doc a;back 0 0;doc a;back 1 0;", "phrase a;new 0;");
        Due.is("version 0 of a later document", x.holds(0, 0, 1, 1, 0), 1);
        Due.is("version 1 of a later document", x.holds(0, 0, 1, 1, 1), 0);
    }

    private static void questionsOfQuestions() {
        Due.sentence("all others: QUESTIONS of lesser numbers, 0 .. 7");
        String archive = "doc;put 0 0 a;put 0 0 b;cut 0 1 1;back 0 1;";
        heldIn(archive, "phrase a;", "01101");
        heldIn(archive, "phrase a;not 0;", "10010");
        heldIn(archive, "phrase a;not 0;not 1;", "01101");
        heldIn(archive, "phrase a;new 0;ever 1;not 2;", "10000");
        heldIn(archive, "phrase a;ever 0;not 0;and 1 2;", "00010");
        heldIn(archive, "phrase a;phrase b;new 0;new 1;or 2 3;not 4;new 5;ever 6;", "11111");
        heldIn(archive, "phrase b;not 0;not 1;not 2;not 3;not 4;not 5;not 6;", "11001");
    }

    /** Ten versions, and the first one of the next document behind them. */
    private static void documentsApart() {
        Due.sentence("A QUESTION HOLDS in a VERSION of a DOCUMENT");
        VersionSearch x = told("doc b;" + "put0 0;".repeat(9) + "doc a;" + "put1 0;".repeat(9), "phrase a;not 0;ever 0;new 0;new 1;many a 1;near a a 1;");
        int[] ever = {2, 1, 2, 2, 1, 2, 0};
        int[] many = {10, 10, 10, 1, 1, 10, 0};
        for (int k = 0; k < ever.length; k++) {
            Due.is("EVER of " + k, x.found(0, 0, k, 0), ever[k]);
            Due.is("in how many of " + k, x.found(0, 0, k, 3), many[k]);
            for (int document = 0; document < 2; document++) {
                Due.is("SPANS of " + k + " in " + document, x.spans(0, 0, k, document, NONE, false), ever[k] >> document & 1);
            }
        }
        Due.is("the last of document 0", x.spans(0, 0, 1, 0, 0, true), 9);
        Due.is("the first of document 1", x.spans(0, 0, 0, 1, 0, false), 0);
    }

    /** Questions of several words and documents of several rows: each by its own, as it is found here by the row's text. */
    private static void questionsApart() {
        Due.sentence("A QUESTION HOLDS in a VERSION of a DOCUMENT");
        String[][] rows = {{"abc", "abcca", "cca"}, {"bxc", "aabxc"}, {"", "bb", "bbxxac", "bxxac", "bxxa"}};
        String archive = "doc a b c;doc b x c;doc;put 0 3 c a;put 1 0 a a;put 2 0 b b;cut 0 0 2;put 2 2 x x a c;cut 2 1 1;cut 2 4 1;";
        String[] questions = {"phrase b c", "near a b 1", "many c 2", "near b c 2", "many a 2", "phrase x c", "near c a 9", "many b 2"};
        VersionSearch x = told(archive, String.join(";", questions) + ";");
        for (int k = 0; k < questions.length; k++) {
            int[] many = new int[3];
            int[] latest = new int[3];
            for (int document = 0; document < 3; document++) {
                for (int version = 0; version < rows[document].length; version++) {
                    int held = isHeld(rows[document][version], questions[k].split(" ")) ? 1 : 0;
                    Due.is(questions[k] + " in " + rows[document][version], x.holds(0, 0, k, document, version), held);
                    many[document] += held;
                    latest[document] = held;
                }
            }
            for (int document = 0; document < 3; document++) {
                int ahead = 0;
                for (int other = 0; other < 3; other++) {
                    int more = 10 * (many[other] - many[document]) + latest[other] - latest[document];
                    ahead += more > 0 || more == 0 && other < document ? 1 : 0;
                }
                Due.is(questions[k] + ", rank " + ahead, x.found(0, 0, k, 10 + ahead), document);
            }
        }
    }

    private static boolean isHeld(String row, String[] question) {
        if (question[0].equals("phrase")) {
            return row.contains(question[1] + question[2]);
        }
        if (question[0].equals("many")) {
            return row.chars().filter(sign -> sign == question[1].charAt(0)).count() >= Integer.parseInt(question[2]);
        }
        for (int a = 0; a < row.length(); a++) {
            for (int b = 0; b < row.length(); b++) {
                boolean both = row.charAt(a) == question[1].charAt(0) && row.charAt(b) == question[2].charAt(0);
                if (a != b && both && Math.abs(a - b) <= Integer.parseInt(question[3])) {
                    return true;
                }
            }
        }
        return false;
    }

    /** The rank of a question that is not the first one, by the latest versions alone. */
    private static void rankOfALaterQuestion() {
        Due.sentence("of several that in whose latest one it HOLDS");
        VersionSearch x = told("doc b;put 0 0 a;cut 0 0 1;doc a;doc;put 2 0 a;put 2 0 b;", "phrase b;phrase a;and 0 1;");
        int[][] want = {{0, 2, 1}, {2, 1, 0}, {2, 0, 1}};
        for (int k = 0; k < want.length; k++) {
            for (int i = 0; i < 3; i++) {
                Due.is("question " + k + " rank " + i, x.found(0, 0, k, 10 + i), want[k][i]);
            }
        }
        VersionSearch y = told("doc a;cut 0 0 1;put 0 0 b;doc;put 1 0 a;", "phrase b;phrase a;");
        Due.is("b: document 0 first", y.found(0, 0, 0, 10), 0);
        Due.is("a: document 1 first, by its latest", y.found(0, 0, 1, 10), 1);
        Due.is("a: document 0 then", y.found(0, 0, 1, 11), 0);
    }

    private static void howManyQuestions() {
        Due.sentence("How many QUESTIONS (k NONE, what 0)");
        VersionSearch x = told("", QUESTIONS);
        Due.is("k NONE, what 0", x.question(0, NONE, 0), 8);
        for (int what : new int[] {LEAST, -2, -1, 1, 2, 3, 9, 10, 11, GREATEST}) {
            Due.is("k NONE, what " + what, x.question(0, NONE, what), -2);
        }
        Due.text(x, 1, NONE, "");
        Due.is("of none", x.question(1, NONE, 0), 0);
        Due.is("the first of none", x.question(1, 0, 0), -2);
        Due.text(x, 1, 0, "phrase a;");
        Due.is("of one", x.question(0, NONE, 0), 1);
        Due.is("none of those that were", x.question(0, 1, 0), -2);
    }

    private static void questionKinds() {
        Due.sentence("of the k-th, what 0: 0 phrase, 1 near, 2 many, 3 not, 4 ever, 5 new, 6 and, 7 or");
        VersionSearch x = told("", QUESTIONS);
        for (int k = 0; k < 8; k++) {
            Due.is("question " + k, x.question(0, k, 0), k);
        }
    }

    private static void questionNumbers() {
        Due.sentence("1, 2: its numbers (of a phrase how many WORDS; NONE without)");
        VersionSearch x = told("", "phrase a;phrase a b c d;near a b 9;many a 1;not 3;ever 4;and 5 0;or 0 6;");
        int[][] want = {{1, NONE}, {4, NONE}, {9, NONE}, {1, NONE}, {3, NONE}, {4, NONE}, {5, 0}, {0, 6}};
        for (int k = 0; k < want.length; k++) {
            Due.is("question " + k + ", what 1", x.question(0, k, 1), want[k][0]);
            Due.is("question " + k + ", what 2", x.question(0, k, 2), want[k][1]);
        }
        VersionSearch y = told("", "phrase a b;new 0;");
        Due.is("new, what 1", y.question(0, 1, 1), 0);
        Due.is("new, what 2", y.question(0, 1, 2), NONE);
    }

    private static void questionWords() {
        Due.sentence("10 + i: its i-th WORD, as a number");
        VersionSearch x = told("", "phrase a;phrase a b c d;phrase zzzz ab;near c d 9;many e 1;not 3;ever 4;and 5 0;");
        int[][] want = {{1}, {1, 2, 3, 4}, {531440, 29}, {3, 4}, {5}, {}, {}, {}};
        for (int k = 0; k < want.length; k++) {
            for (int what = 3; what < 20; what++) {
                int i = what - 10;
                Due.is("question " + k + ", what " + what, x.question(0, k, what), i >= 0 && i < want[k].length ? want[k][i] : -2);
            }
        }
    }

    private static void questionNoneSuch() {
        Due.sentence("-2: there is none such (of any), or for another what.");
        VersionSearch x = told("", QUESTIONS);
        for (int far : FAR) {
            Due.is("what " + far, x.question(0, 0, far), -2);
            Due.is("k " + far, x.question(0, far, 1), -2);
            Due.is("questions " + far, x.question(far, NONE, 0), -2);
        }
        Due.is("k 8", x.question(0, 8, 0), -2);
        Due.is("questions 1", x.question(1, NONE, 0), -2);
        Due.is("questions 1, k 0", x.question(1, 0, 0), -2);
    }

    private static void holds() {
        Due.sentence("1, if the k-th QUESTION HOLDS in a VERSION, else 0");
        VersionSearch x = told(ARCHIVE, QUESTIONS);
        String[] held = {"110100", "110100", "110100", "001011", "111100", "100100", "000000", "110100"};
        for (int k = 0; k < 8; k++) {
            for (int i = 0; i < 6; i++) {
                Due.is("question " + k + " in " + i, x.holds(0, 0, k, i / 4, i % 4), held[k].charAt(i) - '0');
            }
        }
    }

    private static void holdsNoneSuch() {
        Due.sentence("HOLDS in a VERSION .. NONE: there is none such (of any).");
        VersionSearch x = told(ARCHIVE, QUESTIONS);
        for (int far : FAR) {
            Due.is("version " + far, x.holds(0, 0, 3, 0, far), NONE);
            Due.is("document " + far, x.holds(0, 0, 3, far, 0), NONE);
            Due.is("question " + far, x.holds(0, 0, far, 0, 0), NONE);
            Due.is("questions " + far, x.holds(0, far, 3, 0, 0), NONE);
            Due.is("archive " + far, x.holds(far, 0, 3, 0, 0), NONE);
        }
        Due.is("version 3", x.holds(0, 0, 7, 0, 3), 1);
        Due.is("version 4", x.holds(0, 0, 7, 0, 4), NONE);
        Due.is("version 2 of document 1", x.holds(0, 0, 7, 1, 2), NONE);
        Due.is("document 2", x.holds(0, 0, 7, 2, 0), NONE);
        Due.is("question 8", x.holds(0, 0, 8, 0, 0), NONE);
        Due.is("questions 1", x.holds(0, 1, 0, 0, 0), NONE);
        Due.is("archive 1", x.holds(1, 0, 0, 0, 0), NONE);
        Due.text(x, 1, NONE, "");
        Due.is("of no questions", x.holds(0, 1, 0, 0, 0), NONE);
    }

    private static void spans() {
        Due.sentence("SPANS of a QUESTION in a DOCUMENT: the longest rows of VERSIONS, one behind the other, in all of which it HOLDS");
        VersionSearch x = told("doc a;back 0 0;cut 0 0 1;back 0 0;back 0 2;back 0 0;back 0 0;back 0 0;doc b;put 1 0 a;", "phrase a;not 0;phrase z;not 2;");
        int[][] first = {{0, 1}, {3, 3}, {5, 7}};
        int[][] second = {{2, 2}, {4, 4}};
        spansAre(x, 0, 0, first);
        spansAre(x, 1, 0, second);
        spansAre(x, 2, 0, new int[0][]);
        spansAre(x, 3, 0, new int[][] {{0, 7}});
        spansAre(x, 0, 1, new int[][] {{1, 1}});
        spansAre(x, 1, 1, new int[][] {{0, 0}});
        spansAre(x, 3, 1, new int[][] {{0, 1}});
    }

    private static void spansAre(VersionSearch x, int k, int document, int[][] spans) {
        String call = "question " + k + " in " + document;
        Due.is(call + ", how many", x.spans(0, 0, k, document, NONE, false), spans.length);
        Due.is(call + ", how many (last)", x.spans(0, 0, k, document, NONE, true), spans.length);
        for (int span = 0; span < spans.length; span++) {
            Due.is(call + ", first of " + span, x.spans(0, 0, k, document, span, false), spans[span][0]);
            Due.is(call + ", last of " + span, x.spans(0, 0, k, document, span, true), spans[span][1]);
        }
        Due.is(call + ", not so many", x.spans(0, 0, k, document, spans.length, false), NONE);
        Due.is(call + ", not so many (last)", x.spans(0, 0, k, document, spans.length, true), NONE);
    }

    private static void spansOfTen() {
        Due.sentence("how many (span NONE), or of one the first VERSION, or (last) the last one");
        VersionSearch x = told(BY_TURNS, "phrase a;not 0;ever 0;or 0 1;");
        for (int document = 0; document < 4; document++) {
            spansAre(x, 0, document, new int[][] {{1, 1}, {3, 3}, {5, 5}, {7, 7}, {9, 9}});
            spansAre(x, 1, document, new int[][] {{0, 0}, {2, 2}, {4, 4}, {6, 6}, {8, 8}});
            spansAre(x, 2, document, new int[][] {{1, 9}});
            spansAre(x, 3, document, new int[][] {{0, 9}});
        }
    }

    private static void spansNoneSuch() {
        Due.sentence("SPANS of the k-th QUESTION in a DOCUMENT .. NONE: not so many, or there is none such (of any).");
        VersionSearch x = told(ARCHIVE, QUESTIONS);
        for (int far : FAR) {
            boolean howMany = far == NONE;
            Due.is("span " + far, x.spans(0, 0, 0, 0, far, false), howMany ? 2 : NONE);
            Due.is("span " + far + ", last", x.spans(0, 0, 0, 0, far, true), howMany ? 2 : NONE);
            Due.is("document " + far, x.spans(0, 0, 0, far, NONE, false), NONE);
            Due.is("question " + far, x.spans(0, 0, far, 0, NONE, false), NONE);
            Due.is("questions " + far, x.spans(0, far, 0, 0, NONE, false), NONE);
            Due.is("archive " + far, x.spans(far, 0, 0, 0, NONE, false), NONE);
        }
        Due.is("span 1", x.spans(0, 0, 0, 0, 1, false), 3);
        Due.is("span 2", x.spans(0, 0, 0, 0, 2, false), NONE);
        Due.is("span 0 of none", x.spans(0, 0, 0, 1, 0, false), NONE);
        Due.is("document 1", x.spans(0, 0, 7, 1, NONE, false), 0);
        Due.is("document 2", x.spans(0, 0, 7, 2, NONE, false), NONE);
        Due.is("question 8", x.spans(0, 0, 8, 0, NONE, false), NONE);
        Due.is("questions 1", x.spans(0, 1, 0, 0, NONE, false), NONE);
        Due.is("archive 1", x.spans(1, 0, 0, 0, NONE, false), NONE);
    }

    private static void times() {
        Due.sentence("TIMES of a phrase in a VERSION: at how many PLACES it begins there");
        VersionSearch x = told("doc a a a b a a;put 0 6 a;doc;doc b;doc a b a b a;", "phrase a;phrase a a;phrase a b;phrase a a a;phrase a b a;phrase b;phrase a a b a;phrase z;");
        int[][] want = {{5, 6, 0, 0, 3}, {3, 4, 0, 0, 0}, {1, 1, 0, 0, 2}, {1, 2, 0, 0, 0}, {1, 1, 0, 0, 2}, {1, 1, 0, 1, 2}, {1, 1, 0, 0, 0}, {0, 0, 0, 0, 0}};
        int[][] versions = {{0, 0}, {0, 1}, {1, 0}, {2, 0}, {3, 0}};
        for (int k = 0; k < want.length; k++) {
            for (int i = 0; i < versions.length; i++) {
                Due.is("question " + k + " in " + i, x.times(0, 0, k, versions[i][0], versions[i][1]), want[k][i]);
            }
        }
        VersionSearch y = told("doc" + " a".repeat(20) + ";", "phrase a;phrase a a;phrase a a a a;");
        Due.is("one of twenty", y.times(0, 0, 0, 0, 0), 20);
        Due.is("two of twenty", y.times(0, 0, 1, 0, 0), 19);
        Due.is("four of twenty", y.times(0, 0, 2, 0, 0), 17);
    }

    private static void timesNoneSuch() {
        Due.sentence("TIMES. NONE: it is no phrase, or there is none such (of any).");
        VersionSearch x = told(ARCHIVE, QUESTIONS);
        Due.is("a phrase", x.times(0, 0, 0, 0, 3), 1);
        for (int k = 1; k < 9; k++) {
            Due.is("question " + k, x.times(0, 0, k, 0, 3), NONE);
        }
        for (int far : FAR) {
            Due.is("version " + far, x.times(0, 0, 0, 0, far), NONE);
            Due.is("document " + far, x.times(0, 0, 0, far, 0), NONE);
            Due.is("question " + far, x.times(0, 0, far, 0, 0), NONE);
            Due.is("questions " + far, x.times(0, far, 0, 0, 0), NONE);
            Due.is("archive " + far, x.times(far, 0, 0, 0, 0), NONE);
        }
        Due.is("version 4", x.times(0, 0, 0, 0, 4), NONE);
        Due.is("version 1 of document 1", x.times(0, 0, 0, 1, 1), 0);
        Due.is("version 2 of document 1", x.times(0, 0, 0, 1, 2), NONE);
        Due.is("document 2", x.times(0, 0, 0, 2, 0), NONE);
        Due.is("questions 1", x.times(0, 1, 0, 0, 0), NONE);
        Due.is("archive 1", x.times(1, 0, 0, 0, 0), NONE);
    }

    private static void asOf() {
        Due.sentence("of each DOCUMENT its last VERSION of that DATE or an earlier one: DOCUMENTS (bits) in whose one the QUESTION HOLDS");
        VersionSearch x = told("doc a;doc;cut 0 0 1;put 1 0 a;doc a;back 0 0;doc a;back 2 0;back 3 0;cut 1 0 1;", "phrase a;not 0;phrase z;not 2;");
        int[] held = {1, 1, 0, 2, 6, 7, 15, 15, 15, 13};
        int[] not = {0, 2, 3, 1, 1, 0, 0, 0, 0, 2};
        int[] all = {1, 3, 3, 3, 7, 7, 15, 15, 15, 15};
        for (int date = 0; date < held.length; date++) {
            Due.is("date " + date, x.found(0, 0, 0, 100 + date), held[date]);
            Due.is("not, date " + date, x.found(0, 0, 1, 100 + date), not[date]);
            Due.is("in none, date " + date, x.found(0, 0, 2, 100 + date), 0);
            Due.is("in all, date " + date, x.found(0, 0, 3, 100 + date), all[date]);
        }
        Due.is("behind all dates", x.found(0, 0, 0, 110), 13);
    }

    private static void asOfAllDates() {
        Due.sentence("AS OF a date, 0 .. 99");
        VersionSearch x = told("doc a;", "phrase a;");
        for (int date = 0; date <= 99; date++) {
            Due.is("date " + date, x.found(0, 0, 0, 100 + date), 1);
        }
        Due.is("what 99", x.found(0, 0, 0, 99), NONE);
        Due.is("what 200 is the first of CHANGES", x.found(0, 0, 0, 200), 0);
        Due.is("what 201", x.found(0, 0, 0, 201), NONE);
    }

    private static void everAndAlways() {
        Due.sentence("EVER, ALWAYS: DOCUMENTS (bits) in any, in each VERSION of which it HOLDS");
        VersionSearch x = told("doc a;back 0 0;doc;put 1 0 a;doc;put 2 0;doc a;cut 3 0 1;", "phrase a;not 0;ever 0;phrase z;not 3;");
        int[][] want = {{11, 1}, {14, 4}, {11, 9}, {0, 0}, {15, 15}};
        for (int k = 0; k < want.length; k++) {
            Due.is("EVER of " + k, x.found(0, 0, k, 0), want[k][0]);
            Due.is("ALWAYS of " + k, x.found(0, 0, k, 1), want[k][1]);
        }
        VersionSearch y = told(BY_TURNS, "phrase a;not 0;or 0 1;and 0 1;");
        int[][] turns = {{15, 0}, {15, 0}, {15, 15}, {0, 0}};
        for (int k = 0; k < turns.length; k++) {
            Due.is("by turns, EVER of " + k, y.found(0, 0, k, 0), turns[k][0]);
            Due.is("by turns, ALWAYS of " + k, y.found(0, 0, k, 1), turns[k][1]);
        }
        VersionSearch z = told("", "phrase a;not 0;");
        Due.is("EVER without documents", z.found(0, 0, 1, 0), 0);
        Due.is("ALWAYS without documents", z.found(0, 0, 1, 1), 0);
    }

    private static void changesAre(VersionSearch x, int k, int... dates) {
        Due.is("how many of " + k, x.found(0, 0, k, 2), dates.length);
        for (int i = 0; i < dates.length; i++) {
            Due.is("change " + i + " of " + k, x.found(0, 0, k, 200 + i), dates[i]);
        }
        Due.is("not so many of " + k, x.found(0, 0, k, 200 + dates.length), NONE);
    }

    private static void changes() {
        Due.sentence("CHANGES: dates behind which that AS OF is unlike what it was .. how many; the k-th, rising");
        VersionSearch x = told("doc a;doc;cut 0 0 1;put 1 0 a;doc a;back 0 0;doc a;back 2 0;back 3 0;cut 1 0 1;", "phrase a;not 0;phrase z;not 2;");
        changesAre(x, 0, 0, 2, 3, 4, 5, 6, 9);
        changesAre(x, 1, 1, 2, 3, 5, 9);
        changesAre(x, 2);
        changesAre(x, 3, 0, 1, 4, 6);
    }

    private static void changesAheadOfDate0() {
        Due.sentence("(nothing ahead of date 0)");
        changesAre(told("doc a;", "phrase a;"), 0, 0);
        changesAre(told("doc b;", "phrase a;"), 0);
        changesAre(told("doc b;put 0 0 a;", "phrase a;"), 0, 1);
        changesAre(told("", "phrase a;not 0;"), 1);
    }

    private static void changesOfForty() {
        Due.sentence("how many; the k-th, rising");
        VersionSearch x = told(BY_TURNS, "phrase a;");
        int[] dates = new int[36];
        int many = 0;
        for (int date = 0; date < 40 && many < dates.length; date++) {
            if (date % 10 != 0) {
                dates[many++] = date;
            }
        }
        changesAre(x, 0, dates);
        String text = "doc a;doc a;doc a;doc a;" + "cut0 0 1;cut1 0 1;cut2 0 1;cut3 0 1;";
        text += "back0 0;back1 0;back2 0;back3 0;back0 1;back1 1;back2 1;back3 1;".repeat(4);
        VersionSearch y = told(text, "phrase a;");
        Due.is("forty", y.found(0, 0, 0, 2), 40);
        for (int date = 0; date < 40; date++) {
            Due.is("change " + date, y.found(0, 0, 0, 200 + date), date);
        }
        Due.is("no 41st", y.found(0, 0, 0, 240), NONE);
    }

    private static void ranksAre(VersionSearch x, int... documents) {
        for (int i = 0; i < documents.length; i++) {
            Due.is("rank " + i, x.found(0, 0, 0, 10 + i), documents[i]);
        }
        Due.is("not so many", x.found(0, 0, 0, 10 + documents.length), NONE);
    }

    private static void rankByVersions() {
        Due.sentence("RANK: DOCUMENTS, that of more VERSIONS in which it HOLDS first");
        ranksAre(told("doc;doc a;doc a;back 2 0;doc a;back 3 0;back 3 0;", "phrase a;"), 3, 2, 1, 0);
        ranksAre(told("doc a;back 0 0;cut 0 0 1;doc a;", "phrase a;"), 0, 1);
        ranksAre(told("doc a;doc a;back 1 0;cut 1 0 1;", "phrase a;"), 1, 0);
    }

    private static void rankByLatest() {
        Due.sentence("of several that in whose latest one it HOLDS");
        ranksAre(told("doc a;cut 0 0 1;doc a;", "phrase a;"), 1, 0);
        ranksAre(told("doc a;doc a;cut 1 0 1;", "phrase a;"), 0, 1);
        ranksAre(told("doc a;cut 0 0 1;doc a;cut 1 0 1;doc;put 2 0 a;doc;put 3 0 a;", "phrase a;"), 2, 3, 0, 1);
    }

    private static void rankByNumber() {
        Due.sentence("of several the least number: the k-th");
        ranksAre(told("doc;doc;doc;doc;", "phrase a;"), 0, 1, 2, 3);
        ranksAre(told("doc a;doc a;doc a;doc a;", "phrase a;"), 0, 1, 2, 3);
        ranksAre(told("doc;doc a;doc;doc a;", "phrase a;"), 1, 3, 0, 2);
        ranksAre(told("doc;", "phrase a;"), 0);
        ranksAre(told("", "phrase a;"));
    }

    private static void foundNumbers() {
        Due.sentence("what 0: EVER, 1: ALWAYS (bits), 2: CHANGES, 3: in how many VERSIONS it HOLDS, 10 + i: the i-th of RANK, 100 + t: AS OF a date (bits), 200 + i: the i-th of CHANGES");
        VersionSearch x = told(ARCHIVE, QUESTIONS);
        // not: holds in version 2 of document 0, in both of document 1
        int[] first = {3, 2, 3, 3};
        int[] asOf = {0, 2, 2, 3, 2};
        int[] changes = {1, 3, 4};
        for (int what = 0; what < 300; what++) {
            int due = what < first.length ? first[what] : NONE;
            due = what == 10 ? 1 : what == 11 ? 0 : due;
            due = what >= 100 && what < 200 ? asOf[Math.min(what - 100, 4)] : due;
            due = what >= 200 && what < 203 ? changes[what - 200] : due;
            Due.is("what " + what, x.found(0, 0, 3, what), due);
        }
    }

    private static void foundNoneSuch() {
        Due.sentence("Of the k-th QUESTION .. NONE: not so many, there is none such (of any), or for another what.");
        VersionSearch x = told(ARCHIVE, QUESTIONS);
        for (int far : FAR) {
            Due.is("what " + far, x.found(0, 0, 0, far), NONE);
            Due.is("question " + far, x.found(0, 0, far, 0), NONE);
            Due.is("questions " + far, x.found(0, far, 0, 0), NONE);
            Due.is("archive " + far, x.found(far, 0, 0, 0), NONE);
        }
        Due.is("question 7", x.found(0, 0, 7, 3), 3);
        Due.is("question 8", x.found(0, 0, 8, 3), NONE);
        Due.is("questions 1", x.found(0, 1, 0, 0), NONE);
        Due.is("archive 1", x.found(1, 0, 0, 0), NONE);
        Due.text(x, 1, 0, "phrase a;");
        Due.is("no question of a text that was", x.found(0, 0, 1, 0), NONE);
    }

    private static void best() {
        Due.sentence("BEST: the QUESTION that HOLDS in most VERSIONS (be it in none)");
        Due.is("the last", told("doc a b;put 0 0 c;back 0 0;", "phrase c;phrase x;phrase a;").best(0, 0, 0), 2);
        Due.is("the first", told("doc a b;put 0 0 c;back 0 0;", "phrase a;phrase c;phrase x;").best(0, 0, 0), 0);
        Due.is("in none", told("doc a;", "phrase x;phrase y;").best(0, 0, 0), 0);
        Due.is("without versions", told("", "phrase x;not 0;").best(0, 0, 0), 0);
        Due.is("of several documents", told("doc a;back 0 0;doc b;doc b;doc b;", "phrase a;phrase b;").best(0, 0, 0), 1);
        Due.is("of eight", told("doc a;", "phrase x;phrase x;phrase x;phrase x;phrase x;phrase x;phrase x;phrase a;").best(0, 0, 0), 7);
    }

    private static void bestOfSeveral() {
        Due.sentence("of several the least (no QUESTIONS: none)");
        Due.is("of two", told("doc a b;", "phrase x;phrase a;phrase b;").best(0, 0, 0), 1);
        Due.is("of two in other versions", told("doc a;doc b;", "phrase x;phrase b;phrase a;").best(0, 0, 0), 1);
        Due.is("no questions", told("doc a;", "").best(0, 0, 0), NONE);
        Due.is("one question", told("doc a;", "phrase x;").best(0, 0, 0), 0);
    }

    private static void same() {
        Due.sentence("SAME: couples of QUESTIONS that HOLD in just the same VERSIONS");
        String archive = "doc a b;cut 0 1 1;doc a b c;";
        Due.is("no questions", told(archive, "").best(0, 0, 1), 0);
        Due.is("one question", told(archive, "phrase a;").best(0, 0, 1), 0);
        Due.is("in fewer", told(archive, "phrase a;phrase b;").best(0, 0, 1), 0);
        Due.is("in more", told(archive, "phrase b;phrase a;").best(0, 0, 1), 0);
        Due.is("in others", told(archive, "phrase b;not 0;").best(0, 0, 1), 0);
        Due.is("in the same", told(archive, "phrase b;phrase a b;").best(0, 0, 1), 1);
        Due.is("in none", told(archive, "phrase x;phrase y;").best(0, 0, 1), 1);
        Due.is("of another document alone", told("doc a;doc b;", "phrase a;phrase b;").best(0, 0, 1), 0);
        Due.is("without versions", told("", "phrase a;not 0;phrase b;").best(0, 0, 1), 3);
        Due.is("of eight", told(archive, "phrase a;".repeat(8)).best(0, 0, 1), 28);
    }

    private static void bestNoneSuch() {
        Due.sentence("What 0: BEST (NONE), 1: SAME. -2: there is none such (of either), or for another what.");
        VersionSearch x = told(ARCHIVE, QUESTIONS);
        Due.is("what 0", x.best(0, 0, 0), 4);
        Due.is("what 1", x.best(0, 0, 1), 6);
        Due.is("what 2", x.best(0, 0, 2), -2);
        for (int far : FAR) {
            Due.is("what " + far, x.best(0, 0, far), -2);
            Due.is("questions " + far, x.best(0, far, 0), -2);
            Due.is("archive " + far, x.best(far, 0, 0), -2);
        }
        Due.is("questions 1", x.best(0, 1, 0), -2);
        Due.is("archive 1", x.best(1, 0, 0), -2);
        Due.is("another what of no questions", told("", "").best(0, 0, 2), -2);
    }

    private static void implies() {
        Due.sentence("IMPLIES of two: whether the second HOLDS wherever the first does (1, else 0)");
        VersionSearch x = told("doc a b;cut 0 1 1;doc a b c;put 1 0 d;", "phrase a;phrase b;phrase c;phrase d;phrase x;not 4;phrase b c;");
        int[][] want = {
            {1, 0, 0, 0, 0, 1, 0}, {1, 1, 0, 0, 0, 1, 0}, {1, 1, 1, 0, 0, 1, 1}, {1, 1, 1, 1, 0, 1, 1}, {1, 1, 1, 1, 1, 1, 1}, {1, 0, 0, 0, 0, 1, 0},
            {1, 1, 1, 0, 0, 1, 1}};
        for (int a = 0; a < want.length; a++) {
            for (int b = 0; b < want.length; b++) {
                Due.is("implies " + a + " " + b, x.implies(0, 0, a, b), want[a][b]);
            }
        }
        VersionSearch y = told("", "phrase a;not 0;");
        Due.is("without versions", y.implies(0, 0, 1, 0), 1);
        VersionSearch w = told("doc a;doc;doc;doc;", "phrase x;phrase a;phrase y;not 1;");
        Due.is("of four documents", w.implies(0, 0, 0, 2), 1);
        Due.is("nothing else of four documents", w.implies(0, 0, 3, 2), 0);
        Due.is("SAME of four documents", w.best(0, 0, 1), 1);
        VersionSearch z = told("doc b;doc b;doc b;doc a;", "phrase a;phrase b;phrase c;");
        Due.is("in the last document alone", z.implies(0, 0, 0, 1), 0);
        Due.is("from the last document", z.implies(0, 0, 1, 0), 0);
    }

    private static void impliesNoneSuch() {
        Due.sentence("IMPLIES. NONE: there is none such (of any).");
        VersionSearch x = told(ARCHIVE, QUESTIONS);
        for (int far : FAR) {
            Due.is("a " + far, x.implies(0, 0, far, 0), NONE);
            Due.is("b " + far, x.implies(0, 0, 0, far), NONE);
            Due.is("questions " + far, x.implies(0, far, 0, 0), NONE);
            Due.is("archive " + far, x.implies(far, 0, 0, 0), NONE);
        }
        Due.is("7 7", x.implies(0, 0, 7, 7), 1);
        Due.is("a 8", x.implies(0, 0, 8, 0), NONE);
        Due.is("b 8", x.implies(0, 0, 0, 8), NONE);
        Due.is("questions 1", x.implies(0, 1, 0, 0), NONE);
        Due.is("archive 1", x.implies(1, 0, 0, 0), NONE);
    }
}
