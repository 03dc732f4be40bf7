/** What is told by one text alone: nothing is left of a text that was in its place, of one beside it, or of what was asked before. */
public final class TextThatWasTest {
    private static final int NONE = VersionSearch.NONE;
    private static final int MOST = 400;
    private static final String[] FAULTY = {"doc abcde;", "many a 0;", "in 4 0;"};

    private static final String[] GREAT = {
        "doc a b c d e f g h i j k l m n o p q r s t;put0 20;back0 0;back0 0;back0 0;back0 0;back0 0;back0 0;back0 0;back0 0;"
            + "doc a a b b c c d d a a;move1 0 9;cut1 2 5;back1 0;back1 1;back1 2;back1 0;back1 3;back1 2;back1 1;"
            + "doc d c b a z zz zzz zzzz aa ab;cut2 0 9;back2 0;back2 1;back2 0;back2 1;back2 0;back2 1;back2 0;back2 0;"
            + "doc c a b c a b;put3 3 c a b;cut3 0 3;back3 0;back3 1;back3 2;back3 0;back3 1;back3 2;back3 0;",
        "phrase a b c d;phrase b;near a b 9;many a 2;not 0;ever 1;and 2 3;or 4 5;",
        "out 0 9;in 1 0;in 2 0;out 3 9;in 0 0;in 0 0;in 0 0;in 0 0;"};
    private static final String[] SMALL = {"doc b a;put 0 1 c;doc a;", "phrase c a;not 0;many b 1;", "in 0 0;"};
    private static final String[][] ALL = {
        GREAT, SMALL, {"doc a b c;put 0 1 b;", "many a 1;not 0;ever 0;", "out 0 1;out 0 0;"}, {"doc a b;", "phrase a b;not 0;", "in 0 0;"},
        {"doc;", "many x 9;", ""}, {"", "", ""},
        // Of the one 20 words in the first version, of the other as many tokens, the first of the second version at its front.
        {"doc" + " a".repeat(20) + ";", "phrase a a a a;", "out 0 0;"},
        {"doc a b;put 0 0;doc c;put 1 0;put 1 1 d e f g;", "many d 1;ever 0;", "out 1 1;"},
        {"doc z;put 0 0 b;doc" + " a".repeat(17) + ";put 1 0 c;", "near z b 9;", "in 1 1;"}};

    private final int[] answers = new int[MOST];
    private int many = 0;

    private TextThatWasTest() {
    }

    public static void main(String[] args) {
        for (String[] was : ALL) {
            for (String[] is : ALL) {
                inThePlaceOfOne(was, is);
                besideAnother(was, is);
                asAnImageHasIt(was, is);
                behindAFault(was, is);
                ofAnotherSort(was, is);
            }
            faultsBehind(was);
        }
        Due.finish("TextThatWasTest");
    }

    private static void tell(VersionSearch x, String[] texts, int at) {
        for (int sort = 0; sort < 3; sort++) {
            Due.is("text of sort " + sort, Due.text(x, sort, at, texts[sort]) >= 0, true);
        }
    }

    private static TextThatWasTest ofANewObject(String[] texts) {
        VersionSearch x = new VersionSearch();
        tell(x, texts, NONE);
        return asked(x, 0);
    }

    private static void inThePlaceOfOne(String[] was, String[] is) {
        Due.sentence("in the place of one: its number");
        VersionSearch x = new VersionSearch();
        tell(x, was, NONE);
        asked(x, 0);
        tell(x, is, 0);
        same(asked(x, 0), ofANewObject(is));
    }

    private static void besideAnother(String[] was, String[] is) {
        Due.sentence("a further one (at NONE)");
        VersionSearch x = new VersionSearch();
        tell(x, was, NONE);
        tell(x, is, NONE);
        TextThatWasTest first = asked(x, 0);
        same(asked(x, 1), ofANewObject(is));
        same(first, ofANewObject(was));
    }

    private static void asAnImageHasIt(String[] was, String[] is) {
        Due.sentence("All that is as image k has it");
        VersionSearch x = new VersionSearch();
        tell(x, is, NONE);
        x.image(0);
        tell(x, was, 0);
        asked(x, 0);
        x.again(0);
        same(asked(x, 0), ofANewObject(is));
    }

    private static void behindAFault(String[] was, String[] is) {
        Due.sentence("NONE: a FAULT");
        VersionSearch x = new VersionSearch();
        tell(x, is, NONE);
        for (int sort = 0; sort < 3; sort++) {
            Due.is("a fault", Due.text(x, sort, 0, was[sort] + "#"), NONE);
            Due.is("a fault of a line", Due.text(x, sort, 0, was[sort] + FAULTY[sort]), NONE);
        }
        same(asked(x, 0), ofANewObject(is));
    }

    /** In whichever order the sorts are told, those of the others stay. */
    private static void ofAnotherSort(String[] was, String[] is) {
        Due.sentence("taken .. as a text of a sort");
        int[][] orders = {{0, 1, 2}, {0, 2, 1}, {1, 0, 2}, {1, 2, 0}, {2, 0, 1}, {2, 1, 0}};
        TextThatWasTest want = ofANewObject(is);
        for (int[] order : orders) {
            VersionSearch x = new VersionSearch();
            for (int at = NONE; at < 1; at++) {
                for (int sort : order) {
                    Due.is("text of sort " + sort, Due.text(x, sort, at, at == NONE ? was[sort] : is[sort]), 0);
                }
            }
            same(asked(x, 0), want);
        }
    }

    /** The faults of a text are those that it has on a new object. */
    private static void faultsBehind(String[] was) {
        Due.sentence("4 a line of an ARCHIVE of a DOCUMENT, a PLACE, so many WORDS, a VERSION that there is not (yet)");
        String[][] texts = {
            {"put 0 0;", "put 3 0;", "cut 0 0 1;", "move 1 0 0;", "back 2 0;", "doc;put 1 0;", "doc;put 0 1;", "doc;cut 0 0 1;", "doc;back 0 1;"},
            {"not 0;", "many a 1;and 1 0;", "many a 1;or 0 1;"},
            {"in 0 10;", "out 4 0;"}};
        int[] faults = {4, 2, 2};
        for (int sort = 0; sort < 3; sort++) {
            for (String text : texts[sort]) {
                VersionSearch fresh = new VersionSearch();
                Due.text(fresh, sort, NONE, text);
                VersionSearch x = new VersionSearch();
                tell(x, was, NONE);
                Due.is("text " + text, Due.text(x, sort, 0, text), NONE);
                Due.is("fault of " + text, x.fault(0), faults[sort]);
                Due.is("its place", x.fault(1), fresh.fault(1));
            }
        }
    }

    private static void same(TextThatWasTest got, TextThatWasTest want) {
        Due.is("how many calls", got.many, want.many);
        for (int i = 0; i < want.many; i++) {
            Due.is("call " + i, got.answers[i], want.answers[i]);
        }
    }

    private void add(int answer) {
        answers[many++] = answer;
    }

    private static TextThatWasTest asked(VersionSearch x, int at) {
        TextThatWasTest all = new TextThatWasTest();
        all.askOfArchive(x, at);
        all.askOfQuestions(x, at);
        all.askOfHunt(x, at);
        return all;
    }

    private void askOfArchive(VersionSearch x, int at) {
        for (int what : new int[] {0, 1, 2, 3, 4, 5, 6, 7, 10, 11, 12, 20, 21, 30, 31, 40, 41, 50, 51}) {
            add(x.archive(at, what));
        }
        for (int v = 0; v < 3; v++) {
            for (int what = 0; what < 6; what++) {
                add(x.version(at, 0, v, what));
            }
            add(x.version(at, 0, v, 12));
            add(x.version(at, 1, v, 11));
        }
        for (int k = 0; k < 4; k++) {
            for (int what = 0; what < 5; what++) {
                add(x.word(at, k, what));
            }
        }
        for (int date = 0; date < 12; date++) {
            add(x.dated(at, date));
        }
        for (int seed = 0; seed < 6; seed++) {
            for (int what = 0; what < 3; what++) {
                add(x.drawn(at, seed, 12, 0, what));
            }
        }
    }

    private void askOfQuestions(VersionSearch x, int at) {
        add(x.question(at, NONE, 0));
        for (int k = 0; k < 4; k++) {
            for (int what : new int[] {0, 1, 2, 10, 11, 12}) {
                add(x.question(at, k, what));
            }
            for (int what : new int[] {0, 1, 2, 3, 10, 11, 12, 100, 102, 139, 200}) {
                add(x.found(at, at, k, what));
            }
            add(x.spans(at, at, k, 0, NONE, false));
            add(x.implies(at, at, k, 0));
            add(x.implies(at, at, 0, k));
        }
        add(x.best(at, at, 0));
        add(x.best(at, at, 1));
    }

    private void askOfHunt(VersionSearch x, int at) {
        add(x.fact(at, NONE, 0));
        for (int k = 0; k < 3; k++) {
            add(x.fact(at, k, 2));
            add(x.fits(at, at, k));
            add(x.fits(at, at, 10 + k));
        }
    }
}
