/** The bounds of the tape, of texts and of their faults (Term 1, promises 1 to 5), each by the document's words and on both sides. */
public final class TextBoundsTest {
    private static final int NONE = VersionSearch.NONE;
    private static final int LEAST = Integer.MIN_VALUE;
    private static final int GREATEST = Integer.MAX_VALUE;
    private static final int BLANKS = 0x20202020;

    /** Of each sort a text without a fault, and one with a fault 2. */
    private static final String[] TEXTS = {"doc a;", "phrase a;", "in 0 0;"};
    private static final String[] FAULTY = {"doc abcde;", "not 0;", "in 4 0;"};

    private TextBoundsTest() {
    }

    public static void main(String[] args) {
        newObject();
        calls512();
        documents();
        versions();
        words();
        letters();
        questions();
        facts();
        tapeLength();
        bytesBetweenTokens();
        bytesBehindWords();
        bytesBehindNumbers();
        bytesAtFirst();
        rowsOfLetters();
        rowsOfDigits();
        stops();
        linesOfArchives();
        linesOfQuestions();
        linesOfHunts();
        sortsOfLines();
        dates();
        docNumbers();
        putNumbers();
        cutNumbers();
        moveNumbers();
        backNumbers();
        nearAndMany();
        lesserQuestions();
        huntNumbers();
        noTextGoesOn();
        theEnd();
        noTextGoesFirst();
        canNotBe();
        firstByPlace();
        leastOfOnePlace();
        toldAllTheSame();
        noFaultAtFirstToken();
        fifthDocument();
        eleventhVersion();
        ninthQuestionAndFact();
        wordsBehindThoseOfTheLatest();
        wordsOfADocumentNotThere();
        fifthWordOfAPhrase();
        documentThatThereIsNot();
        placeThatThereIsNot();
        wordsThatThereAreNot();
        versionThatThereIsNot();
        textsAtMostTwo();
        feed();
        feedOrder();
        feedBeyond();
        end();
        endBeyond();
        textNumbers();
        textFault();
        textNoneSuch();
        fault();
        faultOfTheLatest();
        Due.finish("TextBoundsTest");
    }

    private static String times(int n, String line) {
        return line.repeat(n);
    }

    private static VersionSearch told(String archive) {
        VersionSearch x = new VersionSearch();
        Due.is("archive " + archive, Due.text(x, 0, NONE, archive), 0);
        return x;
    }

    private static void newObject() {
        Due.sentence("No ARCHIVES, QUESTIONS, HUNTS; no images.");
        VersionSearch x = new VersionSearch();
        for (int i = 0; i < 3; i++) {
            Due.is("count " + i, x.count(i), 0);
            Due.is("again " + i, x.again(i), false);
        }
        Due.is("archive", x.archive(0, 0), -2);
        Due.is("version", x.version(0, 0, 0, 0), NONE);
        Due.is("life", x.life(0, 0, 0, 0, 0), NONE);
        Due.is("word", x.word(0, 0, 0), NONE);
        Due.is("dated", x.dated(0, 0), NONE);
        Due.is("shared", x.shared(0, 0, 0, 0), NONE);
        Due.is("common", x.common(0, 0, 0, 0, 0), NONE);
        Due.is("question", x.question(0, NONE, 0), -2);
        Due.is("holds", x.holds(0, 0, 0, 0, 0), NONE);
        Due.is("spans", x.spans(0, 0, 0, 0, NONE, false), NONE);
        Due.is("times", x.times(0, 0, 0, 0, 0), NONE);
        Due.is("found", x.found(0, 0, 0, 0), NONE);
        Due.is("best", x.best(0, 0, 0), -2);
        Due.is("implies", x.implies(0, 0, 0, 0), NONE);
        Due.is("fact", x.fact(0, NONE, 0), -2);
        Due.is("fits", x.fits(0, 0, 0), -2);
        Due.is("drawn", x.drawn(0, 0, 0, 0, 0), NONE);
        Due.is("fault", x.fault(0), 0);
        Due.is("fault's place", x.fault(1), NONE);
        Due.is("the tape's 0 bytes", x.end(0), 0);
        Due.is("a tape's byte", x.end(1), NONE);
        Due.sentence("The constants: NONE = -1: There is none.");
        Due.is("NONE", NONE, -1);
    }

    private static void calls512() {
        Due.sentence("An object is used for at most 512 calls after it has been made");
        VersionSearch x = told("doc a b;");
        for (int call = 4; call <= 511; call++) {
            Due.is("call " + call, x.version(0, 0, 0, 10 + call % 2), 1 + call % 2);
        }
        Due.is("call 512", x.archive(0, 2), 2);
        // What a 513th call answers is free, but LANGUAGE.md has none throw.
        for (int call = 513; call < 600; call++) {
            x.feed(call, call, call, call, call);
            x.text(call % 3, NONE);
        }
    }

    private static void documents() {
        Due.sentence("An ARCHIVE has DOCUMENTS, at most 4, from 0 on");
        VersionSearch x = told(times(4, "doc a;"));
        Due.is("four", x.archive(0, 0), 4);
        Due.is("the first", x.version(0, 0, 0, 0), 1);
        Due.is("the last", x.version(0, 3, 0, 0), 1);
        Due.is("none ahead of the first", x.version(0, -1, 0, 0), NONE);
        Due.is("none behind the last", x.version(0, 4, 0, 0), NONE);
        Due.faultIs(0, times(5, "doc;"), 3, 16);
    }

    private static void versions() {
        Due.sentence("each of which has VERSIONS, at most 10, from 0 on");
        String all = "";
        for (int document = 0; document < 4; document++) {
            all += "doc a;" + times(9, "back" + document + " 0;");
        }
        VersionSearch x = told(all);
        Due.is("forty", x.archive(0, 1), 40);
        for (int document = 0; document < 4; document++) {
            Due.is("ten", x.archive(0, 10 + document), 10);
            Due.is("the last's date", x.version(0, document, 9, 1), 10 * document + 9);
            Due.is("none ahead of the first", x.version(0, document, -1, 1), NONE);
            Due.is("none behind the last", x.version(0, document, 10, 1), NONE);
            Due.faultIs(0, all + "back " + document + " 0;", 3, all.length());
        }
    }

    private static void words() {
        Due.sentence("a VERSION is a row of at most 20 WORDS, PLACES of which are from 0 on");
        VersionSearch x = told("doc b" + times(18, " a") + " c;");
        Due.is("twenty", x.version(0, 0, 0, 0), 20);
        Due.is("the first", x.version(0, 0, 0, 10), 2);
        Due.is("the last", x.version(0, 0, 0, 29), 3);
        Due.is("none ahead of the first", x.version(0, 0, 0, 9), NONE);
        Due.is("none behind the last", x.version(0, 0, 0, 30), NONE);
        Due.faultIs(0, "doc" + times(21, " a") + ";", 3, 44);
    }

    private static void letters() {
        Due.sentence("A WORD has 1 to 4 letters");
        String[] sorts = {"0doc #;", "0doc;put 0 0 #;", "1phrase #;", "1phrase a b c #;", "1near # a 1;", "1near a # 1;", "1many # 1;"};
        for (String sort : sorts) {
            int place = sort.indexOf('#') - 1;
            for (String word : new String[] {"a", "z", "az", "abc", "abcd", "zzzz"}) {
                Due.noFault(sort.charAt(0) - '0', sort.substring(1).replace("#", word));
            }
            for (String word : new String[] {"abcde", "zzzzz", "abcdefghijklmnopqrstuvwxyz"}) {
                Due.faultIs(sort.charAt(0) - '0', sort.substring(1).replace("#", word), 2, place);
            }
        }
    }

    private static void questions() {
        Due.sentence("QUESTIONS are at most 8, from 0 on");
        VersionSearch x = new VersionSearch();
        Due.is("eight", Due.text(x, 1, NONE, "many b 1;" + times(6, "many a 1;") + "many c 1;"), 0);
        Due.is("how many", x.question(0, NONE, 0), 8);
        Due.is("the first", x.question(0, 0, 10), 2);
        Due.is("the last", x.question(0, 7, 10), 3);
        Due.is("none ahead of the first", x.question(0, -2, 10), -2);
        Due.is("none behind the last", x.question(0, 8, 10), -2);
        Due.faultIs(1, times(9, "many a 1;"), 3, 72);
    }

    private static void facts() {
        Due.sentence("A HUNT has FACTS, at most 8, from 0 on");
        VersionSearch x = new VersionSearch();
        Due.is("eight", Due.text(x, 2, NONE, "in 0 1;" + times(6, "in 0 0;") + "in 0 2;"), 0);
        Due.is("how many", x.fact(0, NONE, 0), 8);
        Due.is("the first", x.fact(0, 0, 2), 1);
        Due.is("the last", x.fact(0, 7, 2), 2);
        Due.is("none ahead of the first", x.fact(0, -2, 2), -2);
        Due.is("none behind the last", x.fact(0, 8, 2), -2);
        Due.faultIs(2, times(9, "in 0 0;"), 3, 56);
    }

    private static void tapeLength() {
        Due.sentence("THE TAPE has at most 600 bytes");
        Due.noFault(0, times(600, " "));
        Due.noFault(0, times(594, " ") + "doc a;");
        Due.faultIs(0, times(594, " ") + "doc aa", 1, 600);
        Due.faultIs(0, times(599, "\n") + "#", 1, 599);
        Due.faultIs(2, times(593, " ") + "in 4 0;", 2, 596);
        VersionSearch x = told("doc;" + times(595, " ") + " ");
        Due.tape(x, times(600, " "));
        Due.is("601 bytes", x.feed(BLANKS, BLANKS, BLANKS, BLANKS, BLANKS), NONE);
    }

    /** Puts each byte there is between two tokens, and tells what is due of it. */
    private static void bytesBetweenTokens() {
        Due.sentence("TOKENS OF THE TAPE, as long as they go, blanks (10, 32) between");
        for (int sign = 0; sign < 256; sign++) {
            String text = "doc" + (char) sign + "a;";
            if (sign == 10 || sign == 32) {
                Due.noFault(0, text);
            } else if (sign == ';') {
                Due.faultIs(0, text, 1, 4);
            } else {
                Due.faultIs(0, text, 1, sign >= 'a' && sign <= 'z' ? 0 : 3);
            }
        }
    }

    private static void bytesBehindWords() {
        Due.sentence("rows of letters a .. z");
        for (int sign = 0; sign < 256; sign++) {
            String text = "doc a" + (char) sign + "b;";
            if (sign == ';') {
                Due.faultIs(0, text, 1, 6);
            } else if (sign == 10 || sign == 32) {
                Due.is("two words", told(text).version(0, 0, 0, 0), 2);
            } else if (sign >= 'a' && sign <= 'z') {
                Due.is("one word", told(text).version(0, 0, 0, 10), (27 + sign - 'a' + 1) * 27 + 2);
            } else {
                Due.faultIs(0, text, 1, 5);
            }
        }
    }

    private static void bytesBehindNumbers() {
        Due.sentence("NUMBERS, 1 or 2 digits");
        for (int sign = 0; sign < 256; sign++) {
            String text = "doc a" + times(12, " a") + ";put 0 1" + (char) sign + "b;";
            int put = text.indexOf("put");
            if (sign == ';') {
                Due.faultIs(0, text, 1, put + 8);
            } else if (sign == 10 || sign == 32) {
                Due.is("place 1", told(text).version(0, 0, 1, 11), 2);
            } else if (sign >= 'a' && sign <= 'z') {
                Due.is("place 1, no blank", told(text).version(0, 0, 1, 11), (sign - 'a' + 1) * 27 + 2);
            } else if (sign >= '0' && sign <= '3') {
                Due.is("place " + text, told(text).version(0, 0, 1, 20 + sign - '0'), 2);
            } else {
                boolean digit = sign >= '0' && sign <= '9';
                Due.faultIs(0, text, digit ? 4 : 1, digit ? put : put + 7);
            }
        }
    }

    private static void bytesAtFirst() {
        Due.sentence("the first byte or token with which no text goes on");
        for (int sign = 0; sign < 256; sign++) {
            boolean blank = sign == 10 || sign == 32;
            Due.faultIs(0, (char) sign + "doc;", blank ? 0 : 1, blank ? NONE : 0);
            Due.faultIs(0, "doc;" + (char) sign, blank ? 0 : 1, blank ? NONE : 4);
        }
    }

    private static void rowsOfLetters() {
        Due.sentence("TOKENS OF THE TAPE, as long as they go");
        Due.faultIs(0, "docdoc;", 1, 0);
        Due.faultIs(0, "do;", 1, 0);
        Due.faultIs(0, "d oc;", 1, 0);
        Due.faultIs(0, "dock;", 1, 0);
        Due.faultIs(0, "doc;puts 0 0;", 1, 4);
        Due.faultIs(1, "phrases a;", 1, 0);
        Due.faultIs(1, "an 0 0;", 1, 0);
        Due.faultIs(2, "i 0 0;", 1, 0);
        Due.faultIs(2, "inn 0 0;", 1, 0);
        Due.is("a word as long as it goes", told("doc abc d;").version(0, 0, 0, 0), 2);
        Due.is("a number as long as it goes", told("doc" + times(13, " a") + ";cut 0 12 1;").version(0, 0, 1, 0), 12);
        Due.is("no blanks between tokens of unlike sorts", told("doc a;put0 1b;").version(0, 0, 1, 11), 2);
    }

    private static void rowsOfDigits() {
        Due.sentence("a longer row of digits is no token");
        Due.noFault(0, "doc;put 0 0;");
        Due.noFault(0, "doc;put 00 00;");
        Due.noFault(0, "doc a;put 0 01;");
        Due.faultIs(0, "doc;put 000 0;", 1, 8);
        Due.faultIs(0, "doc;put 0 000;", 1, 10);
        Due.faultIs(0, "doc a;put 0 001;", 1, 12);
        Due.faultIs(0, "doc;put 0 99;", 2, 10);
        Due.faultIs(0, "doc;put 0 100;", 1, 10);
        Due.faultIs(0, "doc;put 0 " + times(100, "0") + ";", 1, 10);
        Due.noFault(1, "many a 09;");
        Due.faultIs(1, "many a 009;", 1, 7);
        Due.noFault(2, "in 03 09;");
        Due.faultIs(2, "in 003 9;", 1, 3);
        Due.faultIs(2, "in 3 009;", 1, 5);
        Due.faultIs(0, "000", 1, 0);
        // No word, no number, no end of a line.
        for (String row : new String[] {"000", "123", "1234", "99999"}) {
            Due.faultIs(0, "doc " + row + ";", 1, 4);
            Due.faultIs(0, "doc a" + row + ";", 1, 5);
            Due.faultIs(0, "doc a " + row + " doc b;", 1, 6);
            Due.faultIs(0, "doc;put 0 0 " + row + ";", 1, 12);
            Due.faultIs(0, "doc a;back 0 0 " + row + "doc;", 1, 15);
            Due.faultIs(1, "phrase " + row + ";", 1, 7);
            Due.faultIs(1, "near a " + row + " 1;", 1, 7);
            Due.faultIs(1, "many a 1 " + row + " not 0;", 1, 9);
            Due.faultIs(2, "in 0 0 " + row + " in 0 0;", 1, 7);
            Due.faultIs(2, row, 1, 0);
        }
    }

    private static void stops() {
        Due.sentence("; one byte");
        Due.noFault(0, "doc;doc;");
        Due.noFault(0, "doc ; doc ;");
        Due.faultIs(0, "doc;;", 1, 4);
        Due.faultIs(0, "doc; ;", 1, 5);
        Due.faultIs(0, ";", 1, 0);
        Due.faultIs(0, "doc:", 1, 3);
        // No other byte ends a line, or is a word or a number.
        for (int sign = 0; sign < 256; sign++) {
            if (sign != ';' && sign != 10 && sign != 32 && (sign < 'a' || sign > 'z')) {
                Due.faultIs(0, "doc a " + (char) sign + " doc;", 1, 6);
                boolean digit = sign >= '0' && sign <= '9';
                Due.faultIs(2, "in 0 " + (char) sign + ";", digit ? 0 : 1, digit ? NONE : 5);
            }
        }
    }

    private static void linesOfArchives() {
        Due.sentence("An ARCHIVE's text: {('doc' {WORD} | 'put' NUMBER NUMBER {WORD} | 'cut' NUMBER NUMBER NUMBER | ..) ';'}");
        Due.noFault(0, "");
        Due.noFault(0, "doc;");
        Due.noFault(0, "doc a;");
        Due.faultIs(0, "doc 0;", 1, 4);
        Due.faultIs(0, "doc a 0;", 1, 6);
        Due.faultIs(0, "doc;put;", 1, 7);
        Due.faultIs(0, "doc;put 0;", 1, 9);
        Due.faultIs(0, "doc;put 0 a;", 1, 10);
        Due.faultIs(0, "doc;put a 0;", 1, 8);
        Due.noFault(0, "doc;put 0 0;");
        Due.noFault(0, "doc;put 0 0 a;");
        Due.faultIs(0, "doc;put 0 0 0;", 1, 12);
        Due.faultIs(0, "doc;put 0 0 a 0;", 1, 14);
        Due.faultIs(0, "doc a;cut 0 0;", 1, 13);
        Due.noFault(0, "doc a;cut 0 0 1;");
        Due.faultIs(0, "doc a;cut 0 0 1 1;", 1, 16);
        Due.faultIs(0, "doc a;cut 0 0 1 a;", 1, 16);
        Due.faultIs(0, "doc a;cut 0 0 a;", 1, 14);
        Due.faultIs(0, "doc a;move 0 0;", 1, 14);
        Due.noFault(0, "doc a;move 0 0 0;");
        Due.faultIs(0, "doc a;move 0 0 0 0;", 1, 17);
        Due.faultIs(0, "doc a;move 0 0 0 a;", 1, 17);
        Due.faultIs(0, "doc a;back 0;", 1, 12);
        Due.noFault(0, "doc a;back 0 0;");
        Due.faultIs(0, "doc a;back 0 0 0;", 1, 15);
        Due.faultIs(0, "doc a;back 0 0 a;", 1, 15);
    }

    private static void linesOfQuestions() {
        Due.sentence("A text of QUESTIONS: {('phrase' WORD {WORD} | 'near' WORD WORD NUMBER | 'many' WORD NUMBER | ..) ';'}");
        Due.noFault(1, "");
        Due.faultIs(1, "phrase;", 1, 6);
        Due.noFault(1, "phrase a;");
        Due.faultIs(1, "phrase 1;", 1, 7);
        Due.faultIs(1, "phrase a 1;", 1, 9);
        Due.faultIs(1, "near a 1;", 1, 7);
        Due.faultIs(1, "near a b;", 1, 8);
        Due.noFault(1, "near a b 1;");
        Due.faultIs(1, "near a b c 1;", 1, 9);
        Due.faultIs(1, "near a b 1 1;", 1, 11);
        Due.faultIs(1, "many 1;", 1, 5);
        Due.faultIs(1, "many a;", 1, 6);
        Due.noFault(1, "many a 1;");
        Due.faultIs(1, "many a b 1;", 1, 7);
        Due.faultIs(1, "many a 1 1;", 1, 9);
        Due.faultIs(1, "near a b 1 a;", 1, 11);
        Due.faultIs(1, "many a 1 a;", 1, 9);
        for (String one : new String[] {"not", "ever", "new"}) {
            int behind = 9 + one.length();
            Due.faultIs(1, "phrase a;" + one + ";", 1, behind);
            Due.noFault(1, "phrase a;" + one + " 0;");
            Due.faultIs(1, "phrase a;" + one + " a;", 1, behind + 1);
            Due.faultIs(1, "phrase a;" + one + " 0 0;", 1, behind + 3);
            Due.faultIs(1, "phrase a;" + one + " 0 a;", 1, behind + 3);
        }
        for (String two : new String[] {"and", "or"}) {
            int behind = 9 + two.length();
            Due.faultIs(1, "phrase a;" + two + " 0;", 1, behind + 2);
            Due.noFault(1, "phrase a;" + two + " 0 0;");
            Due.faultIs(1, "phrase a;" + two + " 0 a;", 1, behind + 3);
            Due.faultIs(1, "phrase a;" + two + " 0 0 0;", 1, behind + 5);
            Due.faultIs(1, "phrase a;" + two + " 0 0 a;", 1, behind + 5);
            Due.faultIs(1, "phrase a;" + two + " a 0;", 1, behind + 1);
        }
    }

    private static void linesOfHunts() {
        Due.sentence("A HUNT's text: {('in' | 'out') NUMBER NUMBER ';'}");
        Due.noFault(2, "");
        for (String fact : new String[] {"in", "out"}) {
            int behind = fact.length();
            Due.faultIs(2, fact + ";", 1, behind);
            Due.faultIs(2, fact + " 0;", 1, behind + 2);
            Due.noFault(2, fact + " 0 0;");
            Due.faultIs(2, fact + " 0 0 0;", 1, behind + 5);
            Due.faultIs(2, fact + " 0 0 a;", 1, behind + 5);
            Due.faultIs(2, fact + " 0 a;", 1, behind + 3);
            Due.faultIs(2, fact + " a;", 1, behind + 1);
        }
    }

    /** Each keyword begins a line in a text of its own sort alone. */
    private static void sortsOfLines() {
        Due.sentence("taken .. as a text of a sort");
        String[] lines = {
            "0doc;", "0put 0 0;", "0cut 0 0 1;", "0move 0 0 0;", "0back 0 0;", "1phrase a;", "1near a b 1;", "1many a 1;",
            "1not 0;", "1ever 0;", "1new 0;", "1and 0 0;", "1or 0 0;", "2in 0 0;", "2out 0 0;"};
        for (String line : lines) {
            for (int sort = 0; sort < 3; sort++) {
                boolean own = line.charAt(0) - '0' == sort;
                int ahead = TEXTS[sort].length();
                Due.faultIs(sort, TEXTS[sort] + line.substring(1), own ? 0 : 1, own ? NONE : ahead);
            }
        }
    }

    private static void dates() {
        Due.sentence("Each line makes a VERSION; its DATE is the number of its line, from 0 on");
        VersionSearch x = told("doc;doc;put 0 0;put 1 0;back 0 0;doc;");
        int[][] dates = {{0, 2, 4}, {1, 3}, {5}};
        for (int document = 0; document < 3; document++) {
            for (int version = 0; version < dates[document].length; version++) {
                Due.is("date of " + document + " " + version, x.version(0, document, version, 1), dates[document][version]);
            }
        }
    }

    private static void docNumbers() {
        Due.sentence("doc: of a further DOCUMENT the first one, these WORDS");
        VersionSearch x = told("doc;doc a;doc a b;");
        for (int document = 0; document < 3; document++) {
            Due.is("versions", x.archive(0, 10 + document), 1);
            Due.is("words", x.version(0, document, 0, 0), document);
        }
        Due.sentence("All others, of a DOCUMENT, 0 .. 3, one more");
        String four = times(4, "doc a;");
        for (String line : new String[] {"put # 0 b;", "cut # 0 1;", "move # 0 0;", "back # 0;"}) {
            int place = four.length() + line.indexOf('#');
            for (int document = 0; document < 4; document++) {
                String text = four + line.replace("#", "" + document);
                Due.noFault(0, text);
                Due.is(text, told(text).archive(0, 10 + document), 2);
            }
            Due.faultIs(0, four + line.replace("#", "4"), 2, place);
            Due.faultIs(0, four + line.replace("#", "99"), 2, place);
        }
    }

    private static void putNumbers() {
        Due.sentence("put: these WORDS come ahead of the PLACE, 0 .. 20 (at the end, too)");
        VersionSearch x = told("doc a b;put 0 0 c d;put 0 4 e;put 0 1;");
        int[] row = {3, 4, 1, 2, 5};
        for (int place = 0; place < row.length; place++) {
            Due.is("place " + place, x.version(0, 0, 3, 10 + place), row[place]);
        }
        Due.is("of no words", x.version(0, 0, 3, 0), 5);
        String twenty = "doc" + times(20, " a") + ";";
        Due.noFault(0, twenty + "put 0 20;");
        Due.faultIs(0, twenty + "put 0 21;", 2, twenty.length() + 6);
        String nineteen = "doc" + times(19, " a") + ";";
        Due.is("the 20th word", told(nineteen + "put 0 19 z;").version(0, 0, 1, 29), 26);
        Due.is("of none", told("doc;put 0 0 z;").version(0, 0, 1, 10), 26);
    }

    private static void cutNumbers() {
        Due.sentence("cut: from the PLACE, 0 .. 19, on so many WORDS, 1 .. 20, are away");
        String twenty = "doc b" + times(18, " a") + " c;";
        int at = twenty.length();
        Due.is("place 0", told(twenty + "cut 0 0 1;").version(0, 0, 1, 10), 1);
        Due.is("place 19", told(twenty + "cut 0 19 1;").version(0, 0, 1, 28), 1);
        Due.is("place 19, words", told(twenty + "cut 0 19 1;").version(0, 0, 1, 0), 19);
        Due.faultIs(0, twenty + "cut 0 20 1;", 2, at + 6);
        Due.faultIs(0, twenty + "cut 0 0 0;", 2, at + 8);
        Due.is("20 words", told(twenty + "cut 0 0 20;").version(0, 0, 1, 0), 0);
        Due.faultIs(0, twenty + "cut 0 0 21;", 2, at + 8);
        VersionSearch x = told("doc a b c d;cut 0 1 2;");
        Due.is("those behind stay", x.version(0, 0, 1, 11), 4);
        Due.is("no more of them", x.version(0, 0, 1, 12), NONE);
    }

    private static void moveNumbers() {
        Due.sentence("move: the WORD at the first PLACE, 0 .. 19, is taken out, and comes ahead of the second PLACE, 0 .. 19, of what is left (at the end, too)");
        String twenty = "doc b" + times(18, " a") + " c;";
        int at = twenty.length();
        Due.is("0 to 19", told(twenty + "move 0 0 19;").version(0, 0, 1, 29), 2);
        Due.is("0 to 19: c is ahead", told(twenty + "move 0 0 19;").version(0, 0, 1, 28), 3);
        Due.is("19 to 0", told(twenty + "move 0 19 0;").version(0, 0, 1, 10), 3);
        Due.is("19 to 0: b is behind", told(twenty + "move 0 19 0;").version(0, 0, 1, 11), 2);
        Due.faultIs(0, twenty + "move 0 20 0;", 2, at + 7);
        Due.faultIs(0, twenty + "move 0 0 20;", 2, at + 9);
        VersionSearch x = told("doc a b c d;move 0 1 1;move 0 1 2;");
        int[][] rows = {{1, 2, 3, 4}, {1, 3, 2, 4}};
        for (int version = 1; version < 3; version++) {
            for (int place = 0; place < 4; place++) {
                Due.is("version " + version + " place " + place, x.version(0, 0, version, 10 + place), rows[version - 1][place]);
            }
        }
    }

    private static void backNumbers() {
        Due.sentence("back: it is as VERSION such, 0 .. 9, was");
        String nine = "doc a;put 0 1 b;" + times(7, "back 0 0;");
        VersionSearch x = told("doc a;put 0 1 b;back 0 0;back 0 1;");
        Due.is("as version 0", x.version(0, 0, 2, 0), 1);
        Due.is("as version 1", x.version(0, 0, 3, 0), 2);
        Due.noFault(0, nine + "back 0 8;");
        Due.faultIs(0, nine + "back 0 9;", 4, nine.length());
        Due.faultIs(0, nine + "back 0 10;", 2, nine.length() + 7);
    }

    private static void nearAndMany() {
        Due.sentence("near: how far, 1 .. 9; many: how many, 1 .. 9");
        for (int n = 0; n < 100; n++) {
            boolean can = n >= 1 && n <= 9;
            Due.faultIs(1, "near a b " + n + ";", can ? 0 : 2, can ? NONE : 9);
            Due.faultIs(1, "many a " + n + ";", can ? 0 : 2, can ? NONE : 7);
        }
    }

    private static void lesserQuestions() {
        Due.sentence("all others: QUESTIONS of lesser numbers, 0 .. 7");
        for (int own = 0; own < 8; own++) {
            String ahead = times(own, "many a 1;");
            for (int n = 0; n < 10; n++) {
                int fault = n < own ? 0 : 2;
                for (String keyword : new String[] {"not", "ever", "new", "and", "or"}) {
                    String other = keyword.equals("and") || keyword.equals("or") ? " " + n : "";
                    int place = ahead.length() + keyword.length() + 1;
                    Due.faultIs(1, ahead + keyword + " " + n + other + ";", fault, fault == 0 ? NONE : place);
                    if (own > 0 && !other.isEmpty()) {
                        Due.faultIs(1, ahead + keyword + " 0 " + n + ";", fault, fault == 0 ? NONE : place + 2);
                    }
                }
            }
        }
    }

    private static void huntNumbers() {
        Due.sentence("A HUNT's text: .. (a DOCUMENT, 0 .. 3, a VERSION, 0 .. 9)");
        for (int n = 0; n < 100; n++) {
            for (String fact : new String[] {"in", "out"}) {
                int place = fact.length() + 1;
                Due.faultIs(2, fact + " " + n + " 0;", n <= 3 ? 0 : 2, n <= 3 ? NONE : place);
                Due.faultIs(2, fact + " 0 " + n + ";", n <= 9 ? 0 : 2, n <= 9 ? NONE : place + 2);
            }
        }
    }

    private static void noTextGoesOn() {
        Due.sentence("FAULTS of all, with places (a token's first byte; the end's): 1 the first byte or token with which no text goes on");
        Due.faultIs(0, "doc a;  cutt 0 0 1;", 1, 8);
        Due.faultIs(0, "doc a;\ncut  abc;", 1, 12);
        Due.faultIs(0, "doc a;cut 0 \n\n 1234;", 1, 15);
        Due.faultIs(0, "doc a; #;#", 1, 7);
        Due.faultIs(0, "doc a;x;y;", 1, 6);
        Due.faultIs(1, "phrase a  ;  many 1;", 1, 18);
        Due.faultIs(2, "in 0 ?0;", 1, 5);
    }

    private static void theEnd() {
        Due.sentence("FAULTS of all, with places (a token's first byte; the end's)");
        Due.noFault(0, "doc a;");
        Due.faultIs(0, "doc a", 1, 5);
        Due.faultIs(0, "doc a  \n", 1, 8);
        Due.faultIs(0, "doc", 1, 3);
        Due.faultIs(0, "d", 1, 0);
        Due.faultIs(0, "doc a;put", 1, 9);
        Due.faultIs(0, "doc a;put 0", 1, 11);
        Due.faultIs(0, "doc a;put 0 0", 1, 13);
        Due.faultIs(0, "doc a;cut 0 0 1", 1, 15);
        Due.faultIs(1, "phrase", 1, 6);
        Due.faultIs(1, "near a b 1", 1, 10);
        Due.faultIs(2, "in 0 0", 1, 6);
        Due.faultIs(2, "in 0 0;out", 1, 10);
        Due.faultIs(2, times(598, " ") + "in", 1, 600);
    }

    private static void noTextGoesFirst() {
        Due.sentence("If there is none, the first by place");
        Due.faultIs(0, "doc abcde;", 2, 4);
        Due.faultIs(0, "doc abcde;#", 1, 10);
        Due.faultIs(0, "doc abcde", 1, 9);
        Due.faultIs(0, times(5, "doc;"), 3, 16);
        Due.faultIs(0, times(5, "doc;") + "cut;", 1, 23);
        Due.faultIs(0, "put 0 0;", 4, 0);
        Due.faultIs(0, "put 0 0;x", 1, 8);
        Due.faultIs(0, "put 0 0;put 0 0", 1, 15);
        Due.faultIs(1, "not 0;not", 1, 9);
        Due.faultIs(2, "in 4 0;in 0 000;", 1, 12);
    }

    private static void canNotBe() {
        Due.sentence("2 a NUMBER or WORD that can't be (as above; a WORD of more letters; a QUESTION that is not of a lesser number");
        Due.noFault(0, "doc a;doc;doc;doc;put 3 0 abcd;");
        Due.faultIs(0, "doc a;doc;doc;doc;put 4 0 abcd;", 2, 22);
        Due.faultIs(0, "doc a;doc;doc;doc;put 3 0 abcde;", 2, 26);
        Due.faultIs(0, "doc a;doc;doc;doc;put 3 21 abcd;", 2, 24);
        Due.noFault(1, "many a 1;many a 9;not 1;");
        Due.faultIs(1, "many a 1;many a 9;not 2;", 2, 22);
        Due.faultIs(1, "many a 1;many a 9;not 3;", 2, 22);
        Due.faultIs(1, "many a 1;many abcde 9;not 1;", 2, 14);
        Due.noFault(2, "out 3 9;");
        Due.faultIs(2, "out 4 9;", 2, 4);
        Due.faultIs(2, "out 3 10;", 2, 6);
    }

    private static void firstByPlace() {
        Due.sentence("If there is none, the first by place, of one place the least");
        Due.faultIs(0, "doc a;put 0 2;put 4 0;", 4, 6);
        Due.faultIs(0, "doc a;put 4 0;put 0 2;", 2, 10);
        Due.faultIs(0, "doc a;put 4 21;", 2, 10);
        Due.faultIs(0, "doc a;put 0 21 abcde;", 2, 12);
        Due.faultIs(0, "doc a abcde b abcdef;", 2, 6);
        Due.faultIs(0, "doc a;cut 9 20 0;", 2, 10);
        Due.faultIs(0, "doc a;cut 0 20 0;", 2, 12);
        Due.faultIs(0, "doc a;cut 0 0 0;", 2, 14);
        Due.faultIs(0, "doc" + times(20, " a") + " a abcde;", 3, 44);
        Due.faultIs(0, "doc" + times(19, " a") + " abcde a;", 2, 42);
        Due.faultIs(1, "near abcde abcde 0;", 2, 5);
        Due.faultIs(1, "near a abcde 0;", 2, 7);
        Due.faultIs(1, "near a b 0;", 2, 9);
        Due.faultIs(1, "phrase a b c d e abcde;", 3, 15);
        Due.faultIs(1, "many a 1;and 0 1;", 2, 15);
        Due.faultIs(1, "many a 1;and 1 1;", 2, 13);
        Due.faultIs(2, "in 0 10;in 4 0;", 2, 5);
        Due.faultIs(2, "in 4 10;", 2, 3);
    }

    private static void leastOfOnePlace() {
        Due.sentence("of one place the least");
        String ten = "doc;" + times(9, "put0 0;");
        Due.faultIs(0, "doc" + times(20, " a") + " abcd;", 3, 44);
        Due.faultIs(0, "doc" + times(20, " a") + " abcde;", 2, 44);
        Due.faultIs(0, "doc a;put 0 0" + times(19, " a") + " abcd;", 3, 52);
        Due.faultIs(0, "doc a;put 0 0" + times(19, " a") + " abcde;", 2, 52);
        Due.faultIs(1, "phrase a b c d abcd;", 3, 15);
        Due.faultIs(1, "phrase a b c d abcde;", 2, 15);
        Due.faultIs(0, ten + "put 0 0;", 3, ten.length());
        Due.faultIs(0, ten + "put 0 1;", 3, ten.length());
        Due.faultIs(0, ten + "cut 0 0 1;", 3, ten.length());
        Due.faultIs(0, ten + "move 0 0 0;", 3, ten.length());
    }

    private static void toldAllTheSame() {
        Due.sentence("a line with such a one tells its DOCUMENT, VERSION, QUESTION, FACT all the same");
        Due.faultIs(0, times(3, "doc;") + "doc abcde;", 2, 16);
        Due.faultIs(0, times(4, "doc;") + "doc abcde;", 3, 16);
        Due.faultIs(1, times(7, "many a 1;") + "many a 0;", 2, 70);
        Due.faultIs(1, times(8, "many a 1;") + "many a 0;", 3, 72);
        Due.faultIs(1, times(8, "many a 1;") + "not 8;", 3, 72);
        Due.faultIs(1, times(8, "many a 1;") + "phrase abcde;", 3, 72);
        Due.faultIs(2, times(7, "in 0 0;") + "in 4 0;", 2, 52);
        Due.faultIs(2, times(8, "in 0 0;") + "in 4 0;", 3, 56);
    }

    private static void noFaultAtFirstToken() {
        Due.sentence("A line of an ARCHIVE but doc in which a NUMBER can't be, or a WORD, makes nothing, and has no 3, 4 at its first token");
        String ten = "doc a;" + times(9, "put0 0;");
        // A beginning, then what can't be, then what can.
        String[][] lines = {
            {"put 0 0 ", "abcde;", "abcd;"}, {"put 0 ", "21;", "1;"}, {"cut 0 ", "20 1;", "1 1;"}, {"cut 0 0 ", "0;", "1;"},
            {"cut 0 0 ", "21;", "20;"}, {"move 0 ", "20 0;", "1 0;"}, {"move 0 0 ", "20;", "1;"}, {"back 0 ", "10;", "0;"}};
        for (String[] line : lines) {
            int place = line[0].length();
            Due.faultIs(0, ten + line[0] + line[2], 3, ten.length());
            Due.faultIs(0, ten + line[0] + line[1], 2, ten.length() + place);
            Due.faultIs(0, line[0] + line[2], 4, 0);
            Due.faultIs(0, line[0] + line[1], 2, place);
        }
        Due.sentence("has no 3, 4 at its first token");
        Due.faultIs(0, "doc" + times(20, " a") + ";put 0 0 a abcde;", 3, 44 + 8);
        Due.faultIs(0, "doc" + times(19, " a") + ";put 0 0 a abcde;", 2, 42 + 10);
        Due.faultIs(0, "doc" + times(19, " a") + ";put 0 0 a a abcde;", 3, 42 + 10);
    }

    private static void fifthDocument() {
        Due.sentence("3 a 5th DOCUMENT .. at its first token");
        String four = times(4, "doc;");
        Due.noFault(0, four);
        Due.faultIs(0, four + " doc;", 3, 17);
        Due.faultIs(0, four + "put 0 0;back 3 0;doc a;doc b;", 3, 33);
        Due.faultIs(0, four + "doc" + times(21, " a") + ";", 3, 16);
    }

    private static void eleventhVersion() {
        Due.sentence("an 11th VERSION of one .. at its first token");
        String ten = "doc a b;" + times(9, "move0 0 1;");
        String nine = "doc a b;" + times(8, "move0 0 1;");
        for (String line : new String[] {"put 0 0;", "put 0 2 c;", "cut 0 0 1;", "cut 0 1 1;", "move 0 1 0;", "back 0 0;", "back 0 8;"}) {
            Due.noFault(0, nine + line);
            Due.faultIs(0, ten + line, 3, ten.length());
            Due.faultIs(0, ten + "\n " + line, 3, ten.length() + 2);
        }
        Due.faultIs(0, ten + "put 0 0" + times(21, " a") + ";", 3, ten.length());
        Due.noFault(0, ten + "doc a;" + times(9, "back1 0;"));
        Due.faultIs(0, ten + "doc a;" + times(10, "back1 0;"), 3, ten.length() + 6 + 9 * 8);
    }

    private static void ninthQuestionAndFact() {
        Due.sentence("a 9th QUESTION, a 9th FACT, at its first token");
        String eight = "phrase a;near a b 1;many a 1;not 0;ever 0;new 0;and 0 0;or 0 0;";
        Due.noFault(1, eight);
        for (String line : new String[] {"phrase a;", "near a b 1;", "many a 1;", "not 0;", "ever 7;", "new 0;", "and 0 7;", "or 0 0;"}) {
            Due.faultIs(1, eight + " " + line, 3, eight.length() + 1);
        }
        Due.faultIs(1, eight + "phrase a b c d e;", 3, eight.length());
        String facts = times(4, "in 0 0;out 1 1;");
        Due.noFault(2, facts);
        Due.faultIs(2, facts + "\nin 0 0;", 3, facts.length() + 1);
        Due.faultIs(2, facts + "\nout 0 0;", 3, facts.length() + 1);
    }

    private static void wordsBehindThoseOfTheLatest() {
        Due.sentence("a 21st WORD of a VERSION (by doc; by put, counted behind those of the latest VERSION of that DOCUMENT, if it is there) .. at it");
        Due.noFault(0, "doc" + times(20, " a") + ";");
        Due.faultIs(0, "doc" + times(20, " a") + "\n\n b;", 3, 46);
        Due.faultIs(0, "doc" + times(25, " a") + ";", 3, 44);
        for (int have = 0; have <= 20; have++) {
            String text = "doc" + times(have, " a") + ";";
            String put = "put 0 0" + times(20 - have, " b");
            Due.noFault(0, text + put + ";");
            Due.faultIs(0, text + put + " c;", 3, text.length() + put.length() + 1);
            Due.faultIs(0, text + put + " c d;", 3, text.length() + put.length() + 1);
        }
        String less = "doc" + times(20, " a") + ";cut 0 5 2;";
        Due.noFault(0, less + "put 0 18 b c;");
        Due.faultIs(0, less + "put 0 18 b c d;", 3, less.length() + 13);
        String other = "doc" + times(20, " a") + ";doc;";
        Due.noFault(0, other + "put 1 0" + times(20, " b") + ";");
        Due.faultIs(0, other + "put 1 0" + times(21, " b") + ";", 3, other.length() + 8 + 40);
        String more = "doc;put 0 0" + times(20, " a") + ";";
        Due.faultIs(0, more + "put 0 0 b;", 3, more.length() + 8);
        Due.noFault(0, more + "back 0 0;put 0 0" + times(20, " b") + ";");
    }

    private static void wordsOfADocumentNotThere() {
        Due.sentence("counted behind those of the latest VERSION of that DOCUMENT, if it is there");
        String twenty = "put 1 0" + times(19, " a");
        Due.faultIs(0, "doc a a;" + twenty + " a;", 4, 8);
        Due.faultIs(0, "doc a a;" + twenty + " a abcde;", 2, 56);
        Due.faultIs(0, "doc a a;" + twenty + " a a abcde;", 3, 56);
        Due.faultIs(0, "put 0 0" + times(20, " a") + " a;", 4, 0);
        Due.faultIs(0, "put 0 0" + times(20, " a") + " abcde;", 2, 48);
        Due.faultIs(0, "put 0 0" + times(20, " a") + " a abcde;", 3, 48);
        // The tenth version of the document ahead is not the latest one of that which is not there.
        for (int document = 1; document < 4; document++) {
            String ten = times(document - 1, "doc;") + "doc a b c;" + times(9, "back" + (document - 1) + " 0;");
            String put = ten + "put " + document + " 0";
            Due.faultIs(0, put + times(19, " a") + " abcde;", 2, put.length() + 39);
            Due.faultIs(0, put + times(20, " a") + " abcde;", 2, put.length() + 41);
            Due.faultIs(0, put + times(20, " a") + " a abcde;", 3, put.length() + 41);
        }
    }

    private static void fifthWordOfAPhrase() {
        Due.sentence("a 5th WORD of a phrase, at it");
        Due.noFault(1, "phrase a b c d;");
        Due.faultIs(1, "phrase a b c d  e;", 3, 16);
        Due.faultIs(1, "phrase a b c d e f g h;", 3, 15);
        Due.faultIs(1, "phrase a;phrase abcd abcd abcd abcd a;", 3, 36);
    }

    private static void documentThatThereIsNot() {
        Due.sentence("4 a line of an ARCHIVE of a DOCUMENT .. that there is not (yet), at its first token");
        for (int have = 0; have < 4; have++) {
            String text = times(have, "doc a;");
            for (String line : new String[] {"put # 0;", "put # 0 a;", "cut # 0 1;", "move # 0 0;", "back # 0;"}) {
                Due.faultIs(0, text + line.replace("#", "" + have), 4, text.length());
                Due.faultIs(0, text + " \n" + line.replace("#", "3"), 4, text.length() + 2);
                Due.noFault(0, text + "doc a;" + line.replace("#", "" + have));
            }
        }
        Due.faultIs(0, "put 0 0;doc;", 4, 0);
    }

    private static void placeThatThereIsNot() {
        Due.sentence("4 a line of an ARCHIVE of .. a PLACE .. that there is not (yet), at its first token");
        for (int have = 0; have <= 20; have++) {
            String text = "doc" + times(have, " a") + ";";
            for (int place = 0; place <= 20; place++) {
                int fault = place <= have ? 0 : 4;
                Due.faultIs(0, text + "put 0 " + place + ";", fault, fault == 0 ? NONE : text.length());
            }
            for (int place = 0; place <= 19; place++) {
                int fault = place < have ? 0 : 4;
                Due.faultIs(0, text + "cut 0 " + place + " 1;", fault, fault == 0 ? NONE : text.length());
                Due.faultIs(0, text + "move 0 " + place + " 0;", fault, fault == 0 ? NONE : text.length());
                Due.faultIs(0, text + "move 0 0 " + place + ";", fault, fault == 0 ? NONE : text.length());
            }
        }
        Due.faultIs(0, "doc a b;cut 0 0 1;put 0 2;", 4, 18);
        Due.noFault(0, "doc a b;cut 0 0 1;put 0 1;");
        Due.noFault(0, "doc a b;cut 0 0 2;back 0 0;cut 0 1 1;");
    }

    private static void wordsThatThereAreNot() {
        Due.sentence("4 a line of an ARCHIVE of .. so many WORDS .. that there is not (yet), at its first token");
        for (int have = 1; have <= 20; have++) {
            String text = "doc" + times(have, " a") + ";";
            for (int place = 0; place < have; place++) {
                Due.noFault(0, text + "cut 0 " + place + " " + (have - place) + ";");
                if (have - place < 20) {
                    Due.faultIs(0, text + "cut 0 " + place + " " + (have - place + 1) + ";", 4, text.length());
                }
            }
        }
    }

    private static void versionThatThereIsNot() {
        Due.sentence("4 a line of an ARCHIVE of .. a VERSION that there is not (yet), at its first token");
        for (int have = 1; have < 10; have++) {
            String text = "doc a;" + times(have - 1, "put0 0;");
            for (int version = 0; version < 10; version++) {
                int fault = version < have ? 0 : 4;
                Due.faultIs(0, text + "back 0 " + version + ";", fault, fault == 0 ? NONE : text.length());
            }
        }
        Due.faultIs(0, "doc;put 0 0;doc;back 1 1;", 4, 16);
        Due.noFault(0, "doc;put 0 0;doc;back 0 1;");
    }

    private static void textsAtMostTwo() {
        Due.sentence("ARCHIVES, at most 2 (sort 0), QUESTIONS, at most 2 texts (1), HUNTS, at most 2 (2), from 0 on");
        for (int sort = 0; sort < 3; sort++) {
            VersionSearch x = new VersionSearch();
            Due.is("the first of sort " + sort, Due.text(x, sort, NONE, TEXTS[sort]), 0);
            Due.is("the second of sort " + sort, Due.text(x, sort, NONE, ""), 1);
            Due.is("a third of sort " + sort, Due.text(x, sort, NONE, TEXTS[sort]), -2);
            Due.is("how many of sort " + sort, x.count(sort), 2);
            Due.is("of another sort", x.count((sort + 1) % 3), 0);
            Due.is("of a third sort", x.count((sort + 2) % 3), 0);
        }
        VersionSearch x = Due.with(TEXTS[0], TEXTS[1], TEXTS[2]);
        for (int i = -1; i <= 2; i++) {
            Due.is("archive " + i, x.archive(i, 0), i == 0 ? 1 : -2);
            Due.is("questions " + i, x.question(i, NONE, 0), i == 0 ? 1 : -2);
            Due.is("hunt " + i, x.fact(i, NONE, 0), i == 0 ? 1 : -2);
        }
        Due.text(x, 0, NONE, "doc;doc;");
        Due.text(x, 1, NONE, "many a 1;not 0;");
        Due.text(x, 2, NONE, "");
        for (int i = -1; i <= 2; i++) {
            Due.is("of two, archive " + i, x.archive(i, 0), i == 0 ? 1 : i == 1 ? 2 : -2);
            Due.is("of two, questions " + i, x.question(i, NONE, 0), i == 0 ? 1 : i == 1 ? 2 : -2);
            Due.is("of two, hunt " + i, x.fact(i, NONE, 0), i == 0 ? 1 : i == 1 ? 0 : -2);
        }
    }

    private static void feed() {
        Due.sentence("The tape: twenty bytes come behind it, of each number the highest first: how many it has");
        VersionSearch x = new VersionSearch();
        Due.is("one feed", x.feed(0, 0, 0, 0, 0), 20);
        Due.is("two feeds", x.feed(LEAST, GREATEST, -1, 1, 0), 40);
        Due.is("twenty each", x.end(40), 40);
        Due.is("no more", x.end(41), NONE);
        Due.is("an end", x.end(3), 3);
        Due.is("behind what is left", x.feed(0, 0, 0, 0, 0), 23);
        x.end(0);
        Due.is("behind nothing", x.feed(0, 0, 0, 0, 0), 20);
    }

    private static void feedOrder() {
        Due.sentence("of each number the highest first");
        VersionSearch x = new VersionSearch();
        x.feed(0x646f6320, 0x62206120, 0x63206420, 0x66206520, 0x68206720);
        x.feed(0x693b2020, BLANKS, BLANKS, BLANKS, BLANKS);
        Due.is("text", x.text(0, NONE), 0);
        int[] row = {2, 1, 3, 4, 6, 5, 8, 7, 9};
        for (int place = 0; place < row.length; place++) {
            Due.is("word " + place, x.version(0, 0, 0, 10 + place), row[place]);
        }
        for (int at = 0; at < 20; at++) {
            int[] five = {BLANKS, BLANKS, BLANKS, BLANKS, BLANKS};
            five[at / 4] ^= 0xa0 << (24 - at % 4 * 8);
            x.feed(five[0], five[1], five[2], five[3], five[4]);
            Due.is("a byte of 128", x.text(0, 0), NONE);
            Due.is("its place", x.fault(1), at);
        }
    }

    private static void feedBeyond() {
        Due.sentence("NONE, and nothing comes, if there would be more than 600");
        for (int have : new int[] {579, 580, 581, 599, 600}) {
            VersionSearch x = new VersionSearch();
            for (int i = 1; i <= 30; i++) {
                Due.is("feed " + i, x.feed(BLANKS, BLANKS, BLANKS, BLANKS, BLANKS), 20 * i);
            }
            x.end(have);
            boolean room = have <= 580;
            Due.is("feed at " + have, x.feed(0x23202020, BLANKS, BLANKS, BLANKS, BLANKS), room ? have + 20 : NONE);
            Due.is("what it has from " + have, x.end(room ? have + 20 : have), room ? have + 20 : have);
            Due.is("no more from " + have, x.end((room ? have + 20 : have) + 1), NONE);
            Due.is("text from " + have, x.text(0, NONE), room ? NONE : 0);
            Due.is("place from " + have, x.fault(1), room ? have : NONE);
        }
    }

    private static void end() {
        Due.sentence("The tape has its first n bytes alone: n");
        VersionSearch x = new VersionSearch();
        Due.is("0 of none", x.end(0), 0);
        Due.tape(x, "doc a b;doc;");
        Due.is("all", x.end(12), 12);
        Due.is("fewer", x.end(8), 8);
        Due.is("all of fewer", x.end(8), 8);
        Due.is("those behind are away", x.end(12), NONE);
        Due.is("text", x.text(0, NONE), 0);
        Due.is("documents", x.archive(0, 0), 1);
        Due.tape(x, "doc a;");
        Due.is("none of them", x.end(0), 0);
        Due.is("no text", x.text(0, 0), 0);
        Due.is("no documents", x.archive(0, 0), 0);
        cutAt("doc abc;", 6, 6);
        cutAt("doc abc;", 2, 0);
        cutAt("doc;back 0 0;", 6, 4);
        cutAt("doc;put 0 00;", 11, 11);
        cutAt("doc a  ;", 6, 6);
        cutAt("doc;x", 5, 4);
        Due.tape(x, "doc;put 0 000;");
        x.end(12);
        Due.is("two digits of three", x.feed(0x3b202020, BLANKS, BLANKS, BLANKS, BLANKS), 32);
        Due.is("are a number", x.text(0, 0), 0);
        Due.tape(x, "doc abcd;");
        x.end(7);
        x.feed(0x3b202020, BLANKS, BLANKS, BLANKS, BLANKS);
        Due.is("three letters of four", x.text(0, 0), 0);
        Due.is("are a word", x.version(0, 0, 0, 10), Due.word("abc"));
    }

    /** A fault 1 of a text that goes on behind the tape's end. */
    private static void cutAt(String text, int end, int place) {
        VersionSearch x = new VersionSearch();
        Due.tape(x, text);
        Due.is("end of " + text, x.end(end), end);
        Due.is("text of " + text, x.text(0, NONE), NONE);
        Due.is("fault of " + text, x.fault(0), 1);
        Due.is("place of " + text, x.fault(1), place);
    }

    private static void endBeyond() {
        Due.sentence("NONE if it has not so many, or n is below 0");
        VersionSearch x = new VersionSearch();
        Due.is("1 of none", x.end(1), NONE);
        Due.tape(x, "doc a;");
        for (int n : new int[] {7, 20, 600, 601, GREATEST, -1, -2, LEAST}) {
            Due.is("end " + n, x.end(n), NONE);
        }
        Due.is("it has as many", x.end(6), 6);
        Due.is("text", x.text(0, NONE), 0);
        Due.is("words", x.version(0, 0, 0, 0), 1);
        Due.is("an empty tape's end", x.end(0), 0);
        Due.is("an empty tape", x.end(1), NONE);
    }

    private static void textNumbers() {
        Due.sentence("The tape is taken (and is empty then) as a text of a sort, a further one (at NONE), or in the place of one: its number");
        for (int sort = 0; sort < 3; sort++) {
            VersionSearch x = new VersionSearch();
            Due.is("further", Due.text(x, sort, NONE, TEXTS[sort]), 0);
            Due.is("empty then", x.end(1), NONE);
            Due.is("in its place", Due.text(x, sort, 0, ""), 0);
            Due.is("one of sort " + sort, x.count(sort), 1);
            Due.is("empty text in its place", size(x, sort, 0), 0);
            Due.is("one more", Due.text(x, sort, NONE, TEXTS[sort]), 1);
            Due.is("the first stays", size(x, sort, 0), 0);
            Due.is("the second", size(x, sort, 1), 1);
            Due.is("in the first's place", Due.text(x, sort, 0, TEXTS[sort]), 0);
            Due.is("in the second's place", Due.text(x, sort, 1, ""), 1);
            Due.is("two of sort " + sort, x.count(sort), 2);
            Due.is("the first anew", size(x, sort, 0), 1);
            Due.is("the second anew", size(x, sort, 1), 0);
        }
    }

    private static int size(VersionSearch x, int sort, int number) {
        return sort == 0 ? x.archive(number, 0) : sort == 1 ? x.question(number, NONE, 0) : x.fact(number, NONE, 0);
    }

    private static void textFault() {
        Due.sentence("NONE: a FAULT");
        for (int sort = 0; sort < 3; sort++) {
            VersionSearch x = new VersionSearch();
            Due.is("further", Due.text(x, sort, NONE, FAULTY[sort]), NONE);
            Due.is("the tape is empty", x.end(1), NONE);
            Due.is("nothing is told", x.count(sort), 0);
            Due.text(x, sort, NONE, TEXTS[sort]);
            Due.is("in its place", Due.text(x, sort, 0, FAULTY[sort]), NONE);
            Due.is("still one", x.count(sort), 1);
            Due.is("it is as it was", size(x, sort, 0), 1);
            Due.is("its fault", x.fault(0), 2);
        }
    }

    private static void textNoneSuch() {
        Due.sentence("-2: there is none such, there are as many as may be, or no such sort (the tape is empty then, too; no text is read, FAULT 0)");
        for (int sort = 0; sort < 3; sort++) {
            VersionSearch x = new VersionSearch();
            for (int have = 0; have <= 2; have++) {
                for (int at : new int[] {LEAST, -2, have, 2, GREATEST}) {
                    noneSuch(x, sort, at);
                }
                if (have == 2) {
                    noneSuch(x, sort, NONE);
                }
                Due.is("how many of sort " + sort, x.count(sort), have);
                if (have < 2) {
                    Due.is("one more of sort " + sort, Due.text(x, sort, NONE, TEXTS[sort]), have);
                }
            }
        }
        VersionSearch x = Due.with(TEXTS[0], TEXTS[1], TEXTS[2]);
        for (int sort : new int[] {LEAST, -2, -1, 3, 4, GREATEST}) {
            for (int at = -1; at < 2; at++) {
                noneSuch(x, sort, at);
            }
        }
        for (int sort = 0; sort < 3; sort++) {
            Due.is("nothing came to sort " + sort, x.count(sort), 1);
            Due.is("sort " + sort + " is as it was", size(x, sort, 0), 1);
        }
    }

    private static void noneSuch(VersionSearch x, int sort, int at) {
        String call = "text(" + sort + ", " + at + ")";
        Due.text(x, 0, x.count(0) == 0 ? NONE : 0, "doc");
        Due.is("a fault ahead of " + call, x.fault(0), 1);
        Due.is(call, Due.text(x, sort, at, "doc"), -2);
        Due.is("the tape behind " + call, x.end(1), NONE);
        Due.is("the fault behind " + call, x.fault(0), 0);
        Due.is("its place behind " + call, x.fault(1), NONE);
    }

    private static void fault() {
        Due.sentence("Of the latest text(), what 0: the FAULT, 0 without, 1: its place, NONE without. NONE for another what.");
        VersionSearch x = new VersionSearch();
        for (int round = 0; round < 2; round++) {
            Due.is("FAULT", x.fault(0), round == 0 ? 0 : 2);
            Due.is("place", x.fault(1), round == 0 ? NONE : 4);
            for (int what : new int[] {LEAST, -2, -1, 2, 3, GREATEST}) {
                Due.is("what " + what, x.fault(what), NONE);
            }
            Due.text(x, 0, NONE, "doc abcde;");
        }
        Due.text(x, 0, NONE, "put 0 0;");
        Due.is("FAULT 4", x.fault(0), 4);
        Due.is("place 0", x.fault(1), 0);
    }

    private static void faultOfTheLatest() {
        Due.sentence("Of the latest text()");
        VersionSearch x = new VersionSearch();
        Due.text(x, 1, NONE, "phrase a b c d e;");
        Due.is("FAULT", x.fault(0), 3);
        x.feed(1, 2, 3, 4, 5);
        x.end(2);
        x.image(0);
        x.count(0);
        Due.is("other calls leave it", x.fault(0), 3);
        Due.is("and its place", x.fault(1), 15);
        x.end(0);
        Due.text(x, 2, NONE, "in 0 10;");
        Due.is("a later one's", x.fault(0), 2);
        Due.is("a later one's place", x.fault(1), 5);
        Due.text(x, 2, NONE, "in 0 9;");
        Due.is("without", x.fault(0), 0);
        Due.is("place without", x.fault(1), NONE);
    }
}
