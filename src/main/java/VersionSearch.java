/** Search across all versions of documents; the document of the project numbers what each call promises. */
public final class VersionSearch {
    public static final int NONE = -1;

    private static final int NO_SUCH = -2;
    private static final int IMAGES = 3;

    private final State now = new State();
    private final State[] images = new State[IMAGES];
    private final Reader reader = new Reader();
    private final History history = new History();
    private final Search search = new Search();
    private final Drawing drawing = new Drawing();

    public VersionSearch() {
    }

    public int feed(int a, int b, int c, int d, int e) {
        Tape tape = now.tape;
        if (!tape.hasRoom()) {
            return NONE;
        }
        tape.add(a);
        tape.add(b);
        tape.add(c);
        tape.add(d);
        tape.add(e);
        return tape.length;
    }

    public int end(int n) {
        if (n < 0 || n > now.tape.length) {
            return NONE;
        }
        now.tape.length = n;
        return n;
    }

    public int text(int sort, int at) {
        int number = now.placeFor(sort, at);
        if (number == NONE) {
            now.faultSort = 0;
            now.faultPlace = NONE;
            now.tape.length = 0;
            return NO_SUCH;
        }
        reader.take(now.tape, sort);
        now.tape.length = 0;
        now.faultSort = reader.faultSort;
        now.faultPlace = reader.faultPlace;
        if (reader.faultSort != 0) {
            return NONE;
        }
        now.keep(reader, sort, number);
        return number;
    }

    public int fault(int what) {
        switch (what) {
            case 0:
                return now.faultSort;
            case 1:
                return now.faultPlace;
            default:
                return NONE;
        }
    }

    public int archive(int archive, int what) {
        Archive told = now.archiveAt(archive);
        if (told == null) {
            return NO_SUCH;
        }
        switch (what) {
            case 0:
                return told.documents;
            case 1:
                return told.versionsOfAll();
            case 2:
                return history.size(told);
            case 3:
                return told.tokens;
            case 4:
                return history.postings(told);
            case 5:
                return history.longestDocument(told);
            case 6:
                return history.twins(told);
            case 7:
                return told.words;
            default:
                return ofDocument(told, what);
        }
    }

    private int ofDocument(Archive told, int what) {
        int document = what % 10;
        if (what < 10 || !told.hasDocument(document)) {
            return NO_SUCH;
        }
        switch (what / 10) {
            case 1:
                return told.versionsOf(document);
            case 2:
                return history.passages(told, document, false);
            case 3:
                return history.passages(told, document, true);
            case 4:
                return history.kept(told, document);
            case 5:
                return history.returns(told, document);
            default:
                return NO_SUCH;
        }
    }

    public int version(int archive, int document, int version, int what) {
        Archive told = now.archiveAt(archive);
        if (told == null || !told.hasVersion(document, version)) {
            return NONE;
        }
        switch (what) {
            case 0:
                return told.lengthOf(document, version);
            case 1:
                return told.dateOf(document, version);
            case 2:
                return history.fresh(told, document, version);
            case 3:
                return history.lost(told, document, version);
            case 4:
                return history.turned(told, document, version);
            case 5:
                return history.oldest(told, document, version);
            default:
                return what >= 10 ? told.wordNumberAt(document, version, what - 10) : NONE;
        }
    }

    public int life(int archive, int document, int version, int place, int what) {
        Archive told = now.archiveAt(archive);
        if (told == null || !told.hasPlace(document, version, place)) {
            return NONE;
        }
        int stay = told.stayOf(told.tokenAt(document, version, place));
        switch (what) {
            case 0:
                return Numbers.firstBit(stay);
            case 1:
                return Numbers.lastBit(stay);
            case 2:
                return Integer.bitCount(stay);
            case 3:
                return Numbers.runs(stay);
            default:
                return NONE;
        }
    }

    public int word(int archive, int k, int what) {
        Archive told = now.archiveAt(archive);
        if (told == null || !told.hasWord(k)) {
            return NONE;
        }
        switch (what) {
            case 0:
                return Numbers.wordNumber(told.wordAt(k));
            case 1:
                return Long.bitCount(told.slotsOfWord(k));
            case 2:
                return history.documentsOfWord(told, k);
            case 3:
                return history.firstDateOfWord(told, k);
            case 4:
                return history.spread(told, k);
            default:
                return NONE;
        }
    }

    public int dated(int archive, int date) {
        Archive told = now.archiveAt(archive);
        return told == null ? NONE : history.documentOfDate(told, date);
    }

    public int shared(int archive, int document, int a, int b) {
        Archive told = now.archiveAt(archive);
        if (told == null || !told.hasVersion(document, a) || !told.hasVersion(document, b)) {
            return NONE;
        }
        return history.inBoth(told, document, a, b);
    }

    public int common(int archive, int a, int v, int b, int w) {
        Archive told = now.archiveAt(archive);
        if (told == null || !told.hasVersion(a, v) || !told.hasVersion(b, w)) {
            return NONE;
        }
        return history.longestRow(told, a, v, b, w);
    }

    public int question(int questions, int k, int what) {
        Questions asked = now.questionsAt(questions);
        if (asked == null) {
            return NO_SUCH;
        }
        if (k == NONE) {
            return what == 0 ? asked.size : NO_SUCH;
        }
        if (!asked.has(k)) {
            return NO_SUCH;
        }
        switch (what) {
            case 0:
                return asked.kindOf(k);
            case 1:
                return asked.numberOf(k, 0);
            case 2:
                return asked.numberOf(k, 1);
            default:
                return what >= 10 && what - 10 < asked.wordsOf(k) ? Numbers.wordNumber(asked.wordOf(k, what - 10)) : NO_SUCH;
        }
    }

    public int holds(int archive, int questions, int k, int document, int version) {
        Archive told = now.archiveAt(archive);
        Questions asked = now.questionsAt(questions);
        if (told == null || asked == null || !asked.has(k) || !told.hasVersion(document, version)) {
            return NONE;
        }
        search.look(told, asked, k);
        return Numbers.bit(search.held(k, document), version);
    }

    public int spans(int archive, int questions, int k, int document, int span, boolean last) {
        Archive told = now.archiveAt(archive);
        Questions asked = now.questionsAt(questions);
        if (told == null || asked == null || !asked.has(k) || !told.hasDocument(document)) {
            return NONE;
        }
        search.look(told, asked, k);
        int held = search.held(k, document);
        if (span == NONE) {
            return Numbers.runs(held);
        }
        int run = Numbers.runAt(held, span);
        return last ? Numbers.lastBit(run) : Numbers.firstBit(run);
    }

    public int times(int archive, int questions, int k, int document, int version) {
        Archive told = now.archiveAt(archive);
        Questions asked = now.questionsAt(questions);
        if (told == null || asked == null || !asked.has(k) || !told.hasVersion(document, version)) {
            return NONE;
        }
        return asked.kindOf(k) == Line.PHRASE ? search.beginnings(told, asked, k, document, version) : NONE;
    }

    public int found(int archive, int questions, int k, int what) {
        Archive told = now.archiveAt(archive);
        Questions asked = now.questionsAt(questions);
        if (told == null || asked == null || !asked.has(k)) {
            return NONE;
        }
        search.look(told, asked, k);
        switch (what) {
            case 0:
                return search.everIn(told, k);
            case 1:
                return search.alwaysIn(told, k);
            case 2:
                return search.changes(told, k);
            case 3:
                return search.versionsHeld(told, k);
            default:
                return foundAt(told, k, what);
        }
    }

    private int foundAt(Archive told, int k, int what) {
        if (what < 10) {
            return NONE;
        }
        if (what < 100) {
            return search.ranked(told, k, what - 10);
        }
        return what < 200 ? search.asOf(told, k, what - 100) : search.changeAt(told, k, what - 200);
    }

    public int best(int archive, int questions, int what) {
        Archive told = now.archiveAt(archive);
        Questions asked = now.questionsAt(questions);
        if (told == null || asked == null) {
            return NO_SUCH;
        }
        search.look(told, asked, asked.size - 1);
        switch (what) {
            case 0:
                return search.heldMost(told, asked);
            case 1:
                return search.sameCouples(told, asked);
            default:
                return NO_SUCH;
        }
    }

    public int implies(int archive, int questions, int a, int b) {
        Archive told = now.archiveAt(archive);
        Questions asked = now.questionsAt(questions);
        if (told == null || asked == null || !asked.has(a) || !asked.has(b)) {
            return NONE;
        }
        search.look(told, asked, Math.max(a, b));
        return search.within(told, a, b) ? 1 : 0;
    }

    public int fact(int hunt, int k, int what) {
        Hunt told = now.huntAt(hunt);
        if (told == null) {
            return NO_SUCH;
        }
        if (k == NONE) {
            return what == 0 ? told.size : NO_SUCH;
        }
        return told.has(k) && what >= 0 && what < Hunt.PARTS ? told.partOf(k, what) : NO_SUCH;
    }

    public int fits(int archive, int hunt, int what) {
        Archive told = now.archiveAt(archive);
        Hunt hunted = now.huntAt(hunt);
        if (told == null || hunted == null) {
            return NO_SUCH;
        }
        switch (what) {
            case 0:
                return hunted.fitting(told);
            case 1:
                return hunted.sureLetter(told);
            case 2:
                return hunted.askVersion(told);
            default:
                return what >= 10 ? hunted.fittingAt(told, what - 10) : NO_SUCH;
        }
    }

    public int drawn(int archive, int seed, int n, int document, int what) {
        Archive told = now.archiveAt(archive);
        if (told == null || !told.hasDocument(document) || n < 0 || n > Drawing.MOST) {
            return NONE;
        }
        Archive grown = drawing.goOn(told, seed, n);
        int latest = grown.versionsOf(document) - 1;
        switch (what) {
            case 0:
                return latest + 1;
            case 1:
                return grown.lengthOf(document, latest);
            case 2:
                return grown.tokensOf(document);
            default:
                return what >= 10 ? grown.wordNumberAt(document, latest, what - 10) : NONE;
        }
    }

    public int count(int sort) {
        return now.isSort(sort) ? now.howMany(sort) : NO_SUCH;
    }

    public boolean image(int k) {
        if (k < 0 || k >= images.length) {
            return false;
        }
        State kept = images[k];
        if (kept == null) {
            kept = new State();
            images[k] = kept;
        }
        kept.copyFrom(now);
        return true;
    }

    public boolean again(int k) {
        if (k < 0 || k >= images.length) {
            return false;
        }
        State kept = images[k];
        if (kept == null) {
            return false;
        }
        now.copyFrom(kept);
        return true;
    }

    /** Rows of numbers, rows of versions as bits (version 0 the lowest), words as numbers. */
    private static final class Numbers {
        static final int BITS = 32;
        static final int LETTERS = 4;
        static final int BASE = 27;
        static final int FIRST = BASE * BASE * BASE;

        /** Beyond a row's ends there is 0, and nothing is set: so no index can make the machine throw. */
        static int at(int[] row, int i) {
            return i >= 0 && i < row.length ? row[i] : 0;
        }

        static void set(int[] row, int i, int value) {
            if (i >= 0 && i < row.length) {
                row[i] = value;
            }
        }

        static void copy(int[] from, int[] to) {
            System.arraycopy(from, 0, to, 0, Math.min(from.length, to.length));
        }

        static int bit(int bits, int i) {
            return i >= 0 && i < BITS ? bits >>> i & 1 : 0;
        }

        static int firstBit(int bits) {
            return bits == 0 ? NONE : Integer.bitCount((bits & -bits) - 1);
        }

        static int lastBit(int bits) {
            int last = NONE;
            for (int i = 0; i < BITS; i++) {
                if (bit(bits, i) == 1) {
                    last = i;
                }
            }
            return last;
        }

        /** How many longest rows of bits side by side there are. */
        static int runs(int bits) {
            return Integer.bitCount(bits & ~(bits << 1));
        }

        /** The k-th of these rows alone; no bits, if there are not so many. */
        static int runAt(int bits, int k) {
            int run = 0;
            int number = NONE;
            for (int i = 0; i < BITS; i++) {
                if (bit(bits, i) == 1) {
                    number += 1 - bit(bits, i - 1);
                    run |= number == k ? 1 << i : 0;
                }
            }
            return run;
        }

        /** A word is held with always four digits, so that the order is that of the letters; it is told without those behind it. */
        static int wordNumber(int spelling) {
            int number = spelling;
            for (int i = 1; i < LETTERS; i++) {
                if (number % BASE == 0) {
                    number /= BASE;
                }
            }
            return number;
        }

        static int firstLetter(int spelling) {
            return spelling / FIRST;
        }
    }

    /** The bytes that are fed, and a reader's walk over their tokens. */
    private static final class Tape {
        static final int MOST = 600;
        static final int A_FEED = 20;
        static final int END = 0;
        static final int LETTERS = 1;
        static final int NUMBER = 2;
        static final int STOP = 3;
        static final int NO_TOKEN = 4;

        final byte[] bytes = new byte[MOST];
        int length = 0;
        int token = END;
        int from = 0;
        int to = 0;

        boolean hasRoom() {
            return length >= 0 && length <= MOST - A_FEED;
        }

        void add(int four) {
            for (int shift = 24; shift >= 0; shift -= 8) {
                if (length >= 0 && length < bytes.length) {
                    bytes[length] = (byte) (four >>> shift);
                    length++;
                }
            }
        }

        void copyFrom(Tape other) {
            System.arraycopy(other.bytes, 0, bytes, 0, Math.min(other.bytes.length, bytes.length));
            length = other.length;
        }

        void rewind() {
            from = 0;
            to = 0;
            token = END;
        }

        void next() {
            from = to;
            while (from < length && isBlank(byteAt(from))) {
                from++;
            }
            to = from;
            if (from >= length) {
                token = END;
            } else if (isLetter(byteAt(from))) {
                token = LETTERS;
                while (to < length && isLetter(byteAt(to))) {
                    to++;
                }
            } else if (isDigit(byteAt(from))) {
                while (to < length && isDigit(byteAt(to))) {
                    to++;
                }
                token = to - from <= 2 ? NUMBER : NO_TOKEN;
            } else {
                token = byteAt(from) == ';' ? STOP : NO_TOKEN;
                to++;
            }
        }

        boolean tokenIs(String keyword) {
            if (token != LETTERS || to - from != keyword.length()) {
                return false;
            }
            for (int i = 0; i < keyword.length(); i++) {
                if (byteAt(from + i) != keyword.charAt(i)) {
                    return false;
                }
            }
            return true;
        }

        int number() {
            int number = 0;
            for (int i = from; i < to; i++) {
                number = number * 10 + byteAt(i) - '0';
            }
            return number;
        }

        boolean isWord() {
            return token == LETTERS && to - from <= Numbers.LETTERS;
        }

        int spelling() {
            int spelling = 0;
            for (int i = 0; i < Numbers.LETTERS; i++) {
                spelling = spelling * Numbers.BASE + (from + i < to ? byteAt(from + i) - 'a' + 1 : 0);
            }
            return spelling;
        }

        private int byteAt(int i) {
            return i >= 0 && i < bytes.length ? bytes[i] : 0;
        }

        private static boolean isBlank(int sign) {
            return sign == 10 || sign == 32;
        }

        private static boolean isLetter(int sign) {
            return sign >= 'a' && sign <= 'z';
        }

        private static boolean isDigit(int sign) {
            return sign >= '0' && sign <= '9';
        }
    }

    /** One line of a text, as its tokens tell it. */
    private static final class Line {
        static final int PHRASE = 0;
        static final int NEAR = 1;
        static final int MANY = 2;
        static final int NOT = 3;
        static final int EVER = 4;
        static final int NEW = 5;
        static final int AND = 6;
        static final int OR = 7;
        static final int DOC = 8;
        static final int PUT = 9;
        static final int CUT = 10;
        static final int MOVE = 11;
        static final int BACK = 12;
        static final int IN = 13;
        static final int OUT = 14;
        static final int KINDS = 15;

        static final int AT_END = 0;
        static final int WRONG = 1;
        static final int WHOLE = 2;

        static final int NUMBERS = 3;
        /** A version's 21st word is a fault, so no further one needs to be known. */
        static final int WORDS = Archive.WORDS + 1;

        int kind = NONE;
        int place = 0;
        int numbers = 0;
        int words = 0;
        int misspeltPlace = NONE;
        final int[] values = new int[NUMBERS];
        final int[] valuePlaces = new int[NUMBERS];
        final int[] spellings = new int[WORDS];
        final int[] wordPlaces = new int[WORDS];

        /** Reads on to the end of the line, or to the token with which no text goes on. */
        int read(Tape tape, int sort) {
            numbers = 0;
            words = 0;
            misspeltPlace = NONE;
            tape.next();
            place = tape.from;
            if (tape.token == Tape.END) {
                return AT_END;
            }
            kind = kindOf(tape, sort);
            if (kind == NONE) {
                return WRONG;
            }
            tape.next();
            String shape = shapeOf(kind);
            for (int i = 0; i < shape.length(); i++) {
                if (shape.charAt(i) == 'n' ? !takesNumber(tape) : !takesWord(tape)) {
                    return WRONG;
                }
            }
            boolean more = kind == DOC || kind == PUT || kind == PHRASE;
            for (int i = 0; i < Tape.MOST && more; i++) {
                more = takesWord(tape);
            }
            return tape.token == Tape.STOP ? WHOLE : WRONG;
        }

        private boolean takesNumber(Tape tape) {
            if (tape.token != Tape.NUMBER) {
                return false;
            }
            Numbers.set(values, numbers, tape.number());
            Numbers.set(valuePlaces, numbers, tape.from);
            numbers++;
            tape.next();
            return true;
        }

        private boolean takesWord(Tape tape) {
            if (tape.token != Tape.LETTERS) {
                return false;
            }
            if (!tape.isWord() && misspeltPlace == NONE) {
                misspeltPlace = tape.from;
            }
            Numbers.set(spellings, words, tape.spelling());
            Numbers.set(wordPlaces, words, tape.from);
            words++;
            tape.next();
            return true;
        }

        int value(int i) {
            return Numbers.at(values, i);
        }

        private static int kindOf(Tape tape, int sort) {
            for (int kind = 0; kind < KINDS; kind++) {
                if (sortOf(kind) == sort && tape.tokenIs(keywordOf(kind))) {
                    return kind;
                }
            }
            return NONE;
        }

        private static int sortOf(int kind) {
            if (kind < DOC) {
                return State.QUESTIONS;
            }
            return kind < IN ? State.ARCHIVES : State.HUNTS;
        }

        private static String keywordOf(int kind) {
            switch (kind) {
                case PHRASE:
                    return "phrase";
                case NEAR:
                    return "near";
                case MANY:
                    return "many";
                case NOT:
                    return "not";
                case EVER:
                    return "ever";
                case NEW:
                    return "new";
                case AND:
                    return "and";
                case OR:
                    return "or";
                case DOC:
                    return "doc";
                case PUT:
                    return "put";
                case CUT:
                    return "cut";
                case MOVE:
                    return "move";
                case BACK:
                    return "back";
                case IN:
                    return "in";
                default:
                    return "out";
            }
        }

        /** What must stand behind the keyword: n a number, w a word. */
        private static String shapeOf(int kind) {
            switch (kind) {
                case DOC:
                    return "";
                case PHRASE:
                    return "w";
                case NEAR:
                    return "wwn";
                case MANY:
                    return "wn";
                case NOT:
                case EVER:
                case NEW:
                    return "n";
                case CUT:
                case MOVE:
                    return "nnn";
                default:
                    return "nn";
            }
        }
    }

    /** Takes a text: what it tells, or its fault. */
    private static final class Reader {
        static final int NO_TEXT = 1;
        static final int CAN_NOT_BE = 2;
        static final int TOO_MANY = 3;
        static final int NOT_THERE = 4;

        final Line line = new Line();
        final Archive archive = new Archive();
        final Questions questions = new Questions();
        final Hunt hunt = new Hunt();
        int faultSort = 0;
        int faultPlace = NONE;

        void take(Tape tape, int sort) {
            faultSort = 0;
            faultPlace = NONE;
            archive.clear();
            questions.size = 0;
            hunt.size = 0;
            noteNoText(tape, sort);
            tape.rewind();
            for (int date = 0; date < Tape.MOST && faultSort == 0; date++) {
                if (line.read(tape, sort) != Line.WHOLE) {
                    break;
                }
                noteWhatCanNotBe();
                if (sort == State.ARCHIVES) {
                    takeVersion(date);
                } else if (sort == State.QUESTIONS) {
                    takeQuestion();
                } else {
                    takeFact();
                }
            }
            archive.listWords();
        }

        /** This fault goes before all others, wherever it stands: so the whole text is walked first. */
        private void noteNoText(Tape tape, int sort) {
            tape.rewind();
            int outcome = Line.WHOLE;
            for (int i = 0; i <= Tape.MOST && outcome == Line.WHOLE; i++) {
                outcome = line.read(tape, sort);
            }
            if (outcome == Line.WRONG) {
                note(NO_TEXT, tape.from);
            }
        }

        private void note(int sort, int place) {
            if (faultSort == 0 || place < faultPlace || place == faultPlace && sort < faultSort) {
                faultSort = sort;
                faultPlace = place;
            }
        }

        private void noteWhatCanNotBe() {
            for (int i = 0; i < line.numbers; i++) {
                if (line.value(i) < least(i) || line.value(i) > most(i)) {
                    note(CAN_NOT_BE, Numbers.at(line.valuePlaces, i));
                }
            }
            if (line.misspeltPlace != NONE) {
                note(CAN_NOT_BE, line.misspeltPlace);
            }
        }

        private int least(int i) {
            boolean many = line.kind == Line.NEAR || line.kind == Line.MANY || line.kind == Line.CUT && i == 2;
            return many ? 1 : 0;
        }

        private int most(int i) {
            switch (line.kind) {
                case Line.NEAR:
                case Line.MANY:
                    return Questions.MOST_NUMBER;
                case Line.PUT:
                    return i == 0 ? Archive.DOCUMENTS - 1 : Archive.WORDS;
                case Line.CUT:
                    return i == 0 ? Archive.DOCUMENTS - 1 : i == 1 ? Archive.WORDS - 1 : Archive.WORDS;
                case Line.MOVE:
                    return i == 0 ? Archive.DOCUMENTS - 1 : Archive.WORDS - 1;
                case Line.BACK:
                case Line.IN:
                case Line.OUT:
                    return i == 0 ? Archive.DOCUMENTS - 1 : Archive.VERSIONS - 1;
                default:
                    return Math.min(Questions.MOST, questions.size) - 1;
            }
        }

        private void takeVersion(int date) {
            if (line.kind == Line.DOC) {
                if (archive.documents >= Archive.DOCUMENTS) {
                    note(TOO_MANY, line.place);
                }
                noteTooManyWords(Archive.WORDS);
            } else {
                // A line with what can't be makes nothing, so at its first token it has no fault.
                if (faultSort == 0) {
                    noteFirstToken();
                }
                if (line.kind == Line.PUT) {
                    noteTooManyWords(Archive.WORDS - archive.latestLength(line.value(0)));
                }
            }
            if (faultSort == 0) {
                makeVersion(date);
            }
        }

        private void noteFirstToken() {
            int document = line.value(0);
            if (archive.versionsOf(document) >= Archive.VERSIONS) {
                note(TOO_MANY, line.place);
            }
            if (!archive.hasDocument(document) || !isThere(document, archive.latestLength(document))) {
                note(NOT_THERE, line.place);
            }
        }

        private boolean isThere(int document, int length) {
            switch (line.kind) {
                case Line.PUT:
                    return line.value(1) <= length;
                case Line.CUT:
                    return line.value(1) + line.value(2) <= length;
                case Line.MOVE:
                    return line.value(1) < length && line.value(2) < length;
                default:
                    return archive.hasVersion(document, line.value(1));
            }
        }

        private void noteTooManyWords(int most) {
            if (line.words > most) {
                note(TOO_MANY, Numbers.at(line.wordPlaces, most));
            }
        }

        private void makeVersion(int date) {
            int document = line.value(0);
            switch (line.kind) {
                case Line.DOC:
                    archive.addDocument(line.spellings, line.words, date);
                    break;
                case Line.PUT:
                    archive.putWords(document, line.value(1), line.spellings, line.words, date);
                    break;
                case Line.CUT:
                    archive.cutWords(document, line.value(1), line.value(2), date);
                    break;
                case Line.MOVE:
                    archive.moveWord(document, line.value(1), line.value(2), date);
                    break;
                default:
                    archive.goBack(document, line.value(1), date);
                    break;
            }
        }

        private void takeQuestion() {
            if (questions.size >= Questions.MOST) {
                note(TOO_MANY, line.place);
            }
            if (line.kind == Line.PHRASE) {
                noteTooManyWords(Questions.WORDS);
            }
            if (faultSort == 0) {
                questions.add(line);
            }
        }

        private void takeFact() {
            if (hunt.size >= Hunt.MOST) {
                note(TOO_MANY, line.place);
            }
            if (faultSort == 0) {
                hunt.add(line);
            }
        }
    }

    /** Documents with their versions, as rows of tokens. A slot is a version's number among those of all documents. */
    private static final class Archive {
        static final int DOCUMENTS = 4;
        static final int VERSIONS = 10;
        static final int WORDS = 20;
        static final int SLOTS = DOCUMENTS * VERSIONS;
        /** A tape tells fewer than 300 words, 40 draws put no more than 40. */
        static final int TOKENS = 340;

        int documents = 0;
        int tokens = 0;
        int words = 0;
        final int[] versions = new int[DOCUMENTS];
        final int[] dates = new int[SLOTS];
        final int[] lengths = new int[SLOTS];
        final int[] rows = new int[SLOTS * WORDS];
        final int[] spellings = new int[TOKENS];
        final int[] owners = new int[TOKENS];
        final int[] stays = new int[TOKENS];
        final int[] wordList = new int[TOKENS];
        final long[] wordSlots = new long[TOKENS];

        void clear() {
            documents = 0;
            tokens = 0;
            words = 0;
            for (int document = 0; document < DOCUMENTS; document++) {
                Numbers.set(versions, document, 0);
            }
        }

        void copyFrom(Archive other) {
            documents = other.documents;
            tokens = other.tokens;
            words = other.words;
            Numbers.copy(other.versions, versions);
            Numbers.copy(other.dates, dates);
            Numbers.copy(other.lengths, lengths);
            Numbers.copy(other.rows, rows);
            Numbers.copy(other.spellings, spellings);
            Numbers.copy(other.owners, owners);
            Numbers.copy(other.stays, stays);
            Numbers.copy(other.wordList, wordList);
            System.arraycopy(other.wordSlots, 0, wordSlots, 0, Math.min(other.wordSlots.length, wordSlots.length));
        }

        static int slotOf(int document, int version) {
            return document * VERSIONS + version;
        }

        boolean hasDocument(int document) {
            return document >= 0 && document < documents;
        }

        boolean hasVersion(int document, int version) {
            return hasDocument(document) && version >= 0 && version < versionsOf(document);
        }

        boolean hasPlace(int document, int version, int place) {
            return hasVersion(document, version) && place >= 0 && place < lengthOf(document, version);
        }

        boolean hasWord(int k) {
            return k >= 0 && k < words;
        }

        int versionsOf(int document) {
            return Numbers.at(versions, document);
        }

        int versionsOfAll() {
            int all = 0;
            for (int document = 0; document < documents; document++) {
                all += versionsOf(document);
            }
            return all;
        }

        /** Each version of a document as a bit. */
        int everyVersion(int document) {
            return (1 << versionsOf(document)) - 1;
        }

        int lengthOf(int document, int version) {
            return Numbers.at(lengths, slotOf(document, version));
        }

        int latestLength(int document) {
            return hasDocument(document) ? lengthOf(document, versionsOf(document) - 1) : 0;
        }

        int dateOf(int document, int version) {
            return Numbers.at(dates, slotOf(document, version));
        }

        int tokenAt(int document, int version, int place) {
            return Numbers.at(rows, slotOf(document, version) * WORDS + place);
        }

        int spellingAt(int document, int version, int place) {
            return Numbers.at(spellings, Numbers.at(rows, slotOf(document, version) * WORDS + place));
        }

        int wordNumberAt(int document, int version, int place) {
            return hasPlace(document, version, place) ? Numbers.wordNumber(spellingAt(document, version, place)) : NONE;
        }

        /** The versions, as bits, in which a token is. */
        int stayOf(int token) {
            return Numbers.at(stays, token);
        }

        int ownerOf(int token) {
            return Numbers.at(owners, token);
        }

        int tokensOf(int document) {
            int own = 0;
            for (int token = 0; token < tokens; token++) {
                own += ownerOf(token) == document ? 1 : 0;
            }
            return own;
        }

        int firstTokenOf(int document) {
            for (int token = 0; token < tokens; token++) {
                if (ownerOf(token) == document) {
                    return token;
                }
            }
            return NONE;
        }

        int wordAt(int k) {
            return Numbers.at(wordList, k);
        }

        /** The versions of all documents, as bits by slot, in which a word is. */
        long slotsOfWord(int k) {
            return k >= 0 && k < wordSlots.length ? wordSlots[k] : 0;
        }

        void addDocument(int[] told, int many, int date) {
            int document = documents;
            if (document >= DOCUMENTS) {
                return;
            }
            documents++;
            Numbers.set(versions, document, 0);
            int slot = open(document, NONE);
            for (int i = 0; i < many; i++) {
                insert(slot, i, newToken(document, Numbers.at(told, i)));
            }
            close(document, slot, date);
        }

        void putWords(int document, int place, int[] told, int many, int date) {
            int slot = open(document, versionsOf(document) - 1);
            for (int i = 0; i < many; i++) {
                insert(slot, place + i, newToken(document, Numbers.at(told, i)));
            }
            close(document, slot, date);
        }

        void cutWords(int document, int place, int many, int date) {
            int slot = open(document, versionsOf(document) - 1);
            for (int i = 0; i < many; i++) {
                remove(slot, place);
            }
            close(document, slot, date);
        }

        void moveWord(int document, int from, int to, int date) {
            int slot = open(document, versionsOf(document) - 1);
            insert(slot, to, remove(slot, from));
            close(document, slot, date);
        }

        void goBack(int document, int version, int date) {
            int slot = open(document, version);
            close(document, slot, date);
        }

        /** The slot of the version that comes, laid out as an earlier version; NONE: without words. */
        private int open(int document, int earlier) {
            int slot = slotOf(document, versionsOf(document));
            int length = earlier == NONE ? 0 : lengthOf(document, earlier);
            for (int place = 0; place < length; place++) {
                Numbers.set(rows, slot * WORDS + place, tokenAt(document, earlier, place));
            }
            Numbers.set(lengths, slot, length);
            return slot;
        }

        private void insert(int slot, int place, int token) {
            int length = Numbers.at(lengths, slot);
            if (length >= WORDS || place < 0 || place > length) {
                return;
            }
            for (int i = length; i > place; i--) {
                Numbers.set(rows, slot * WORDS + i, Numbers.at(rows, slot * WORDS + i - 1));
            }
            Numbers.set(rows, slot * WORDS + place, token);
            Numbers.set(lengths, slot, length + 1);
        }

        private int remove(int slot, int place) {
            int length = Numbers.at(lengths, slot);
            if (place < 0 || place >= length) {
                return 0;
            }
            int token = Numbers.at(rows, slot * WORDS + place);
            for (int i = place; i < length - 1; i++) {
                Numbers.set(rows, slot * WORDS + i, Numbers.at(rows, slot * WORDS + i + 1));
            }
            Numbers.set(lengths, slot, length - 1);
            return token;
        }

        private int newToken(int document, int spelling) {
            int token = tokens;
            if (token >= TOKENS) {
                return 0;
            }
            Numbers.set(spellings, token, spelling);
            Numbers.set(owners, token, document);
            Numbers.set(stays, token, 0);
            tokens++;
            return token;
        }

        private void close(int document, int slot, int date) {
            int version = versionsOf(document);
            for (int place = 0; place < Numbers.at(lengths, slot); place++) {
                int token = Numbers.at(rows, slot * WORDS + place);
                Numbers.set(stays, token, Numbers.at(stays, token) | 1 << version);
            }
            Numbers.set(dates, slot, date);
            Numbers.set(versions, document, version + 1);
        }

        /** The words by letters, each once: asked for often, so made with the text. */
        void listWords() {
            words = 0;
            for (int token = 0; token < tokens; token++) {
                int spelling = Numbers.at(spellings, token);
                int k = placeOfWord(spelling);
                if (k >= words || wordAt(k) != spelling) {
                    openWord(k, spelling);
                }
                if (k < wordSlots.length) {
                    wordSlots[k] |= (long) stayOf(token) << slotOf(ownerOf(token), 0);
                }
            }
        }

        private int placeOfWord(int spelling) {
            int k = 0;
            while (k < words && wordAt(k) < spelling) {
                k++;
            }
            return k;
        }

        private void openWord(int k, int spelling) {
            if (k < 0 || k > words || words >= TOKENS) {
                return;
            }
            for (int i = words; i > k; i--) {
                wordList[i] = wordList[i - 1];
                wordSlots[i] = wordSlots[i - 1];
            }
            wordList[k] = spelling;
            wordSlots[k] = 0;
            words++;
        }
    }

    /** Questions, as their lines tell them. */
    private static final class Questions {
        static final int MOST = 8;
        static final int WORDS = 4;
        static final int NUMBERS = 2;
        static final int MOST_NUMBER = 9;

        int size = 0;
        final int[] kinds = new int[MOST];
        final int[] values = new int[MOST * NUMBERS];
        final int[] wordCounts = new int[MOST];
        final int[] spellings = new int[MOST * WORDS];

        void copyFrom(Questions other) {
            size = other.size;
            Numbers.copy(other.kinds, kinds);
            Numbers.copy(other.values, values);
            Numbers.copy(other.wordCounts, wordCounts);
            Numbers.copy(other.spellings, spellings);
        }

        void add(Line line) {
            int k = size;
            if (k >= MOST) {
                return;
            }
            size++;
            Numbers.set(kinds, k, line.kind);
            Numbers.set(wordCounts, k, Math.min(line.words, WORDS));
            for (int i = 0; i < NUMBERS; i++) {
                Numbers.set(values, k * NUMBERS + i, i < line.numbers ? line.value(i) : NONE);
            }
            for (int i = 0; i < WORDS; i++) {
                Numbers.set(spellings, k * WORDS + i, Numbers.at(line.spellings, i));
            }
            if (line.kind == Line.PHRASE) {
                Numbers.set(values, k * NUMBERS, wordsOf(k));
            }
        }

        boolean has(int k) {
            return k >= 0 && k < size;
        }

        int kindOf(int k) {
            return Numbers.at(kinds, k);
        }

        int numberOf(int k, int i) {
            return Numbers.at(values, k * NUMBERS + i);
        }

        int wordsOf(int k) {
            return Numbers.at(wordCounts, k);
        }

        int wordOf(int k, int i) {
            return Numbers.at(spellings, k * WORDS + i);
        }
    }

    /** Facts that a word must keep to, and the words that do. */
    private static final class Hunt {
        static final int MOST = 8;
        static final int PARTS = 3;

        int size = 0;
        final int[] parts = new int[MOST * PARTS];

        void copyFrom(Hunt other) {
            size = other.size;
            Numbers.copy(other.parts, parts);
        }

        void add(Line line) {
            if (size >= MOST) {
                return;
            }
            Numbers.set(parts, size * PARTS, line.kind == Line.IN ? 1 : 0);
            Numbers.set(parts, size * PARTS + 1, line.value(0));
            Numbers.set(parts, size * PARTS + 2, line.value(1));
            size++;
        }

        boolean has(int k) {
            return k >= 0 && k < size;
        }

        int partOf(int k, int i) {
            return Numbers.at(parts, k * PARTS + i);
        }

        /** The versions that in (1) or out (0) tells, as bits by slot; no word has the bit of one that is not there. */
        private long slotsTold(int in) {
            long slots = 0;
            for (int k = 0; k < size; k++) {
                if (partOf(k, 0) == in) {
                    slots |= 1L << Archive.slotOf(partOf(k, 1), partOf(k, 2));
                }
            }
            return slots;
        }

        private static boolean keepsTo(long slots, long in, long out) {
            return (slots & in) == in && (slots & out) == 0;
        }

        int fitting(Archive archive) {
            long in = slotsTold(1);
            long out = slotsTold(0);
            int fitting = 0;
            for (int k = 0; k < archive.words; k++) {
                fitting += keepsTo(archive.slotsOfWord(k), in, out) ? 1 : 0;
            }
            return fitting;
        }

        int fittingAt(Archive archive, int place) {
            long in = slotsTold(1);
            long out = slotsTold(0);
            int fitting = 0;
            for (int k = 0; k < archive.words; k++) {
                if (keepsTo(archive.slotsOfWord(k), in, out)) {
                    if (fitting == place) {
                        return Numbers.wordNumber(archive.wordAt(k));
                    }
                    fitting++;
                }
            }
            return NO_SUCH;
        }

        int sureLetter(Archive archive) {
            long in = slotsTold(1);
            long out = slotsTold(0);
            int sure = NONE;
            for (int k = 0; k < archive.words; k++) {
                if (keepsTo(archive.slotsOfWord(k), in, out)) {
                    int letter = Numbers.firstLetter(archive.wordAt(k));
                    if (sure != NONE && sure != letter) {
                        return NONE;
                    }
                    sure = letter;
                }
            }
            return sure;
        }

        int askVersion(Archive archive) {
            int fitting = fitting(archive);
            int ask = NONE;
            int least = fitting;
            for (int slot = 0; slot < Archive.SLOTS && fitting > 0; slot++) {
                int document = slot / Archive.VERSIONS;
                int version = slot % Archive.VERSIONS;
                if (archive.hasVersion(document, version)) {
                    int inside = fittingIn(archive, slot);
                    int greater = Math.max(inside, fitting - inside);
                    if (ask == NONE || greater < least) {
                        ask = 10 * document + version;
                        least = greater;
                    }
                }
            }
            return ask;
        }

        private int fittingIn(Archive archive, int slot) {
            long in = slotsTold(1);
            long out = slotsTold(0);
            int inside = 0;
            for (int k = 0; k < archive.words; k++) {
                long slots = archive.slotsOfWord(k);
                inside += (slots >>> slot & 1) == 1 && keepsTo(slots, in, out) ? 1 : 0;
            }
            return inside;
        }
    }

    /** All that is told. */
    private static final class State {
        static final int ARCHIVES = 0;
        static final int QUESTIONS = 1;
        static final int HUNTS = 2;
        static final int SORTS = 3;
        static final int MOST = 2;

        final Tape tape = new Tape();
        int faultSort = 0;
        int faultPlace = NONE;
        final int[] counts = new int[SORTS];
        final Archive[] archives = new Archive[MOST];
        final Questions[] questions = new Questions[MOST];
        final Hunt[] hunts = new Hunt[MOST];

        State() {
            for (int i = 0; i < MOST; i++) {
                archives[i] = new Archive();
                questions[i] = new Questions();
                hunts[i] = new Hunt();
            }
        }

        void copyFrom(State other) {
            tape.copyFrom(other.tape);
            faultSort = other.faultSort;
            faultPlace = other.faultPlace;
            Numbers.copy(other.counts, counts);
            for (int i = 0; i < MOST; i++) {
                archives[i].copyFrom(other.archives[i]);
                questions[i].copyFrom(other.questions[i]);
                hunts[i].copyFrom(other.hunts[i]);
            }
        }

        boolean isSort(int sort) {
            return sort >= 0 && sort < SORTS;
        }

        int howMany(int sort) {
            return Numbers.at(counts, sort);
        }

        private boolean isTold(int sort, int at) {
            return at >= 0 && at < howMany(sort) && at < MOST;
        }

        Archive archiveAt(int at) {
            return isTold(ARCHIVES, at) ? archives[at] : null;
        }

        Questions questionsAt(int at) {
            return isTold(QUESTIONS, at) ? questions[at] : null;
        }

        Hunt huntAt(int at) {
            return isTold(HUNTS, at) ? hunts[at] : null;
        }

        /** The number that a text gets; NONE: it has no place. */
        int placeFor(int sort, int at) {
            if (!isSort(sort)) {
                return NONE;
            }
            if (at == NONE) {
                return howMany(sort) < MOST ? howMany(sort) : NONE;
            }
            return isTold(sort, at) ? at : NONE;
        }

        void keep(Reader reader, int sort, int number) {
            if (number < 0 || number >= MOST) {
                return;
            }
            switch (sort) {
                case ARCHIVES:
                    archives[number].copyFrom(reader.archive);
                    break;
                case QUESTIONS:
                    questions[number].copyFrom(reader.questions);
                    break;
                default:
                    hunts[number].copyFrom(reader.hunt);
                    break;
            }
            Numbers.set(counts, sort, Math.max(howMany(sort), number + 1));
        }
    }

    /** What an archive tells of its documents, versions, tokens and words. */
    private static final class History {
        private final int[] commonRow = new int[Archive.WORDS + 1];

        int size(Archive archive) {
            int size = 0;
            for (int document = 0; document < archive.documents; document++) {
                for (int version = 0; version < archive.versionsOf(document); version++) {
                    size += archive.lengthOf(document, version);
                }
            }
            return size;
        }

        int postings(Archive archive) {
            int postings = 0;
            for (int token = 0; token < archive.tokens; token++) {
                postings += Numbers.runs(archive.stayOf(token));
            }
            return postings;
        }

        int longestDocument(Archive archive) {
            int longest = NONE;
            for (int document = 0; document < archive.documents; document++) {
                if (longest == NONE || archive.latestLength(document) > archive.latestLength(longest)) {
                    longest = document;
                }
            }
            return longest;
        }

        int twins(Archive archive) {
            int twins = 0;
            for (int document = 0; document < archive.documents; document++) {
                for (int version = 0; version < archive.versionsOf(document); version++) {
                    twins += twinsAhead(archive, document, version);
                }
            }
            return twins;
        }

        /** Of the versions of lesser documents, and the earlier ones of its own, so that each couple is met once. */
        private int twinsAhead(Archive archive, int document, int version) {
            int twins = 0;
            for (int other = 0; other <= document; other++) {
                int versions = other == document ? version : archive.versionsOf(other);
                for (int earlier = 0; earlier < versions; earlier++) {
                    twins += sameWords(archive, document, version, other, earlier) ? 1 : 0;
                }
            }
            return twins;
        }

        private boolean sameWords(Archive archive, int a, int v, int b, int w) {
            int length = archive.lengthOf(a, v);
            if (length != archive.lengthOf(b, w)) {
                return false;
            }
            for (int place = 0; place < length; place++) {
                if (archive.spellingAt(a, v, place) != archive.spellingAt(b, w, place)) {
                    return false;
                }
            }
            return true;
        }

        /** All tokens of a passage are first in one version, side by side there: so it is enough to walk each token's first. */
        int passages(Archive archive, int document, boolean longest) {
            int passages = 0;
            int length = 0;
            int greatest = 0;
            for (int version = 0; version < archive.versionsOf(document); version++) {
                for (int place = 0; place < archive.lengthOf(document, version); place++) {
                    int token = archive.tokenAt(document, version, place);
                    if (Numbers.firstBit(archive.stayOf(token)) == version) {
                        boolean goesOn = place > 0
                                && stayTogether(archive, document, archive.tokenAt(document, version, place - 1), token);
                        passages += goesOn ? 0 : 1;
                        length = goesOn ? length + 1 : 1;
                        greatest = Math.max(greatest, length);
                    }
                }
            }
            return longest ? greatest : passages;
        }

        private boolean stayTogether(Archive archive, int document, int a, int b) {
            int stay = archive.stayOf(a);
            if (stay != archive.stayOf(b)) {
                return false;
            }
            for (int version = 0; version < archive.versionsOf(document); version++) {
                if (Numbers.bit(stay, version) == 1
                        && placeOf(archive, document, version, a) + 1 != placeOf(archive, document, version, b)) {
                    return false;
                }
            }
            return true;
        }

        private int placeOf(Archive archive, int document, int version, int token) {
            for (int place = 0; place < archive.lengthOf(document, version); place++) {
                if (archive.tokenAt(document, version, place) == token) {
                    return place;
                }
            }
            return NONE;
        }

        int kept(Archive archive, int document) {
            int kept = 0;
            for (int token = 0; token < archive.tokens; token++) {
                boolean own = archive.ownerOf(token) == document;
                kept += own && archive.stayOf(token) == archive.everyVersion(document) ? 1 : 0;
            }
            return kept;
        }

        int returns(Archive archive, int document) {
            int returns = 0;
            for (int version = 2; version < archive.versionsOf(document); version++) {
                boolean changed = !sameWords(archive, document, version, document, version - 1);
                returns += changed && wasBefore(archive, document, version) ? 1 : 0;
            }
            return returns;
        }

        private boolean wasBefore(Archive archive, int document, int version) {
            for (int earlier = 0; earlier < version; earlier++) {
                if (sameWords(archive, document, version, document, earlier)) {
                    return true;
                }
            }
            return false;
        }

        int fresh(Archive archive, int document, int version) {
            int fresh = 0;
            for (int place = 0; place < archive.lengthOf(document, version); place++) {
                int stay = archive.stayOf(archive.tokenAt(document, version, place));
                fresh += Numbers.firstBit(stay) == version ? 1 : 0;
            }
            return fresh;
        }

        int lost(Archive archive, int document, int version) {
            if (version == 0) {
                return 0;
            }
            return archive.lengthOf(document, version - 1) - inBoth(archive, document, version - 1, version);
        }

        int inBoth(Archive archive, int document, int a, int b) {
            int both = 0;
            for (int place = 0; place < archive.lengthOf(document, a); place++) {
                both += Numbers.bit(archive.stayOf(archive.tokenAt(document, a, place)), b);
            }
            return both;
        }

        int turned(Archive archive, int document, int version) {
            int turned = 0;
            for (int place = 0; place < archive.lengthOf(document, version) && version > 0; place++) {
                int before = placeOf(archive, document, version - 1, archive.tokenAt(document, version, place));
                for (int other = 0; other < place && before != NONE; other++) {
                    int token = archive.tokenAt(document, version, other);
                    turned += placeOf(archive, document, version - 1, token) > before ? 1 : 0;
                }
            }
            return turned;
        }

        int oldest(Archive archive, int document, int version) {
            int upTo = (2 << version) - 1;
            int oldest = NONE;
            int most = 0;
            for (int place = 0; place < archive.lengthOf(document, version); place++) {
                int age = Integer.bitCount(archive.stayOf(archive.tokenAt(document, version, place)) & upTo);
                if (age > most) {
                    oldest = place;
                    most = age;
                }
            }
            return oldest;
        }

        int documentOfDate(Archive archive, int date) {
            for (int document = 0; document < archive.documents; document++) {
                for (int version = 0; version < archive.versionsOf(document); version++) {
                    if (archive.dateOf(document, version) == date) {
                        return document;
                    }
                }
            }
            return NONE;
        }

        int longestRow(Archive archive, int a, int v, int b, int w) {
            int length = archive.lengthOf(b, w);
            for (int i = 0; i <= length; i++) {
                Numbers.set(commonRow, i, 0);
            }
            for (int place = 0; place < archive.lengthOf(a, v); place++) {
                int spelling = archive.spellingAt(a, v, place);
                int diagonal = 0;
                for (int i = 1; i <= length; i++) {
                    int above = Numbers.at(commonRow, i);
                    boolean same = archive.spellingAt(b, w, i - 1) == spelling;
                    Numbers.set(commonRow, i, same ? diagonal + 1 : Math.max(above, Numbers.at(commonRow, i - 1)));
                    diagonal = above;
                }
            }
            return Numbers.at(commonRow, length);
        }

        int documentsOfWord(Archive archive, int k) {
            int documents = 0;
            for (int slot = 0; slot < Archive.SLOTS; slot++) {
                if ((archive.slotsOfWord(k) >>> slot & 1) == 1) {
                    documents |= 1 << slot / Archive.VERSIONS;
                }
            }
            return documents;
        }

        int firstDateOfWord(Archive archive, int k) {
            int first = NONE;
            for (int slot = 0; slot < Archive.SLOTS; slot++) {
                int date = Numbers.at(archive.dates, slot);
                if ((archive.slotsOfWord(k) >>> slot & 1) == 1 && (first == NONE || date < first)) {
                    first = date;
                }
            }
            return first;
        }

        int spread(Archive archive, int k) {
            int spread = 0;
            for (int document = 0; document < archive.documents; document++) {
                for (int version = 0; version < archive.versionsOf(document); version++) {
                    spread = Math.max(spread, timesIn(archive, archive.wordAt(k), document, version));
                }
            }
            return spread;
        }

        static int timesIn(Archive archive, int spelling, int document, int version) {
            int times = 0;
            for (int place = 0; place < archive.lengthOf(document, version); place++) {
                times += archive.spellingAt(document, version, place) == spelling ? 1 : 0;
            }
            return times;
        }
    }

    /** In which versions questions hold, and what follows from it. */
    private static final class Search {
        /** Of each question and document, the versions in which it holds, as bits. */
        private final int[] heldBits = new int[Questions.MOST * Archive.DOCUMENTS];

        /** Looks after all questions up to one: a question is made of those of lesser numbers alone. */
        void look(Archive archive, Questions questions, int last) {
            for (int k = 0; k <= last && k < Questions.MOST; k++) {
                for (int document = 0; document < archive.documents; document++) {
                    Numbers.set(heldBits, k * Archive.DOCUMENTS + document, lookIn(archive, questions, k, document));
                }
            }
        }

        int held(int k, int document) {
            return Numbers.at(heldBits, k * Archive.DOCUMENTS + document);
        }

        private int lookIn(Archive archive, Questions questions, int k, int document) {
            int a = held(questions.numberOf(k, 0), document);
            int b = held(questions.numberOf(k, 1), document);
            switch (questions.kindOf(k)) {
                case Line.NOT:
                    return archive.everyVersion(document) & ~a;
                case Line.EVER:
                    return archive.everyVersion(document) & -(a & -a);
                case Line.NEW:
                    return a & ~(a << 1);
                case Line.AND:
                    return a & b;
                case Line.OR:
                    return a | b;
                default:
                    return lookAtWords(archive, questions, k, document);
            }
        }

        private int lookAtWords(Archive archive, Questions questions, int k, int document) {
            int kind = questions.kindOf(k);
            int bits = 0;
            for (int version = 0; version < archive.versionsOf(document); version++) {
                boolean holds = kind == Line.PHRASE ? beginnings(archive, questions, k, document, version) > 0
                        : kind == Line.NEAR ? areNear(archive, questions, k, document, version)
                        : areMany(archive, questions, k, document, version);
                bits |= holds ? 1 << version : 0;
            }
            return bits;
        }

        private boolean areMany(Archive archive, Questions questions, int k, int document, int version) {
            return History.timesIn(archive, questions.wordOf(k, 0), document, version) >= questions.numberOf(k, 0);
        }

        /** At how many places a phrase begins. */
        int beginnings(Archive archive, Questions questions, int k, int document, int version) {
            int words = questions.wordsOf(k);
            int beginnings = 0;
            for (int place = 0; place + words <= archive.lengthOf(document, version); place++) {
                int same = 0;
                while (same < words && archive.spellingAt(document, version, place + same) == questions.wordOf(k, same)) {
                    same++;
                }
                beginnings += same == words ? 1 : 0;
            }
            return beginnings;
        }

        private boolean areNear(Archive archive, Questions questions, int k, int document, int version) {
            int length = archive.lengthOf(document, version);
            for (int a = 0; a < length; a++) {
                for (int b = 0; b < length; b++) {
                    if (a != b && Math.abs(a - b) <= questions.numberOf(k, 0)
                            && archive.spellingAt(document, version, a) == questions.wordOf(k, 0)
                            && archive.spellingAt(document, version, b) == questions.wordOf(k, 1)) {
                        return true;
                    }
                }
            }
            return false;
        }

        int everIn(Archive archive, int k) {
            int documents = 0;
            for (int document = 0; document < archive.documents; document++) {
                documents |= held(k, document) != 0 ? 1 << document : 0;
            }
            return documents;
        }

        int alwaysIn(Archive archive, int k) {
            int documents = 0;
            for (int document = 0; document < archive.documents; document++) {
                documents |= held(k, document) == archive.everyVersion(document) ? 1 << document : 0;
            }
            return documents;
        }

        int versionsHeld(Archive archive, int k) {
            int versions = 0;
            for (int document = 0; document < archive.documents; document++) {
                versions += Integer.bitCount(held(k, document));
            }
            return versions;
        }

        int asOf(Archive archive, int k, int date) {
            int documents = 0;
            for (int document = 0; document < archive.documents; document++) {
                int latest = NONE;
                for (int version = 0; version < archive.versionsOf(document); version++) {
                    if (archive.dateOf(document, version) <= date) {
                        latest = version;
                    }
                }
                documents |= Numbers.bit(held(k, document), latest) << document;
            }
            return documents;
        }

        int changes(Archive archive, int k) {
            int changes = 0;
            for (int date = 0; date < archive.versionsOfAll(); date++) {
                changes += isChange(archive, k, date) ? 1 : 0;
            }
            return changes;
        }

        int changeAt(Archive archive, int k, int i) {
            int changes = 0;
            for (int date = 0; date < archive.versionsOfAll(); date++) {
                if (isChange(archive, k, date)) {
                    if (changes == i) {
                        return date;
                    }
                    changes++;
                }
            }
            return NONE;
        }

        /** Each line makes one version, so no date is as great as the number of versions, and nothing changes there. */
        private boolean isChange(Archive archive, int k, int date) {
            return asOf(archive, k, date) != asOf(archive, k, date - 1);
        }

        int ranked(Archive archive, int k, int rank) {
            for (int document = 0; document < archive.documents; document++) {
                int ahead = 0;
                for (int other = 0; other < archive.documents; other++) {
                    ahead += other != document && isAhead(archive, k, other, document) ? 1 : 0;
                }
                if (ahead == rank) {
                    return document;
                }
            }
            return NONE;
        }

        private boolean isAhead(Archive archive, int k, int a, int b) {
            int more = Integer.bitCount(held(k, a)) - Integer.bitCount(held(k, b));
            if (more != 0) {
                return more > 0;
            }
            int latest = latestHeld(archive, k, a) - latestHeld(archive, k, b);
            return latest != 0 ? latest > 0 : a < b;
        }

        private int latestHeld(Archive archive, int k, int document) {
            return Numbers.bit(held(k, document), archive.versionsOf(document) - 1);
        }

        int heldMost(Archive archive, Questions questions) {
            int most = NONE;
            for (int k = 0; k < questions.size; k++) {
                if (most == NONE || versionsHeld(archive, k) > versionsHeld(archive, most)) {
                    most = k;
                }
            }
            return most;
        }

        int sameCouples(Archive archive, Questions questions) {
            int couples = 0;
            for (int a = 0; a < questions.size; a++) {
                for (int b = 0; b < a; b++) {
                    couples += within(archive, a, b) && within(archive, b, a) ? 1 : 0;
                }
            }
            return couples;
        }

        /** Whether b holds wherever a does. */
        boolean within(Archive archive, int a, int b) {
            for (int document = 0; document < archive.documents; document++) {
                if ((held(a, document) & ~held(b, document)) != 0) {
                    return false;
                }
            }
            return true;
        }
    }

    /** Goes on with an archive by a seed, beside it: the archive that is told stays as it is. */
    private static final class Drawing {
        static final int MOST = 40;
        static final int DEEDS = 6;

        private final Archive grown = new Archive();
        private final int[] oneWord = new int[1];
        private int x = 0;

        Archive goOn(Archive archive, int seed, int n) {
            grown.copyFrom(archive);
            x = seed;
            for (int i = 0; i < n && grown.documents > 0; i++) {
                int document = below(grown.documents);
                deed(document, below(DEEDS));
            }
            return grown;
        }

        private int below(int n) {
            x = x * 1103515245 + 12345;
            return n > 0 ? (x >>> 16) % n : 0;
        }

        private void deed(int document, int deed) {
            boolean hasWords = grown.latestLength(document) > 0;
            if (deed < 2) {
                if (hasWords) {
                    cut(document);
                }
            } else if (deed < 4) {
                if (grown.firstTokenOf(document) != NONE) {
                    put(document);
                }
            } else if (deed == 4) {
                if (hasWords) {
                    move(document);
                }
            } else {
                back(document);
            }
        }

        /** The numbers are drawn even where nothing more may be told. */
        private boolean mayGoOn(int document) {
            return grown.versionsOf(document) < Archive.VERSIONS;
        }

        private void cut(int document) {
            int place = below(grown.latestLength(document));
            if (mayGoOn(document)) {
                grown.cutWords(document, place, 1, NONE);
            }
        }

        private void put(int document) {
            int length = grown.latestLength(document);
            int place = below(length + 1);
            if (mayGoOn(document) && length < Archive.WORDS) {
                Numbers.set(oneWord, 0, Numbers.at(grown.spellings, grown.firstTokenOf(document)));
                grown.putWords(document, place, oneWord, 1, NONE);
            }
        }

        private void move(int document) {
            int length = grown.latestLength(document);
            int from = below(length);
            int to = below(length);
            if (mayGoOn(document)) {
                grown.moveWord(document, from, to, NONE);
            }
        }

        private void back(int document) {
            int version = below(grown.versionsOf(document));
            if (mayGoOn(document)) {
                grown.goBack(document, version, NONE);
            }
        }
    }
}
