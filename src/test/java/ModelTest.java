import java.nio.charset.StandardCharsets;
import java.util.ArrayList;
import java.util.List;
import java.util.Random;

/** Runs of calls on an object and on the model beside it: each answer must be the same. */
public final class ModelTest {
    private static final int RUNS = 1500;
    private static final int CALLS = 512;
    private static final String[] WORDS = {"a", "b", "c", "d", "ab", "ba", "abc", "zz", "doc", "put", "abcd", "z"};

    private final Random random;
    private final int run;
    private VersionSearch x = new VersionSearch();
    private Model model = new Model();
    private int calls = 0;
    private int callsOfObject = 0;
    private final String[][] kept = new String[3][2];
    private boolean strict = false;

    private ModelTest(int run) {
        this.run = run;
        random = new Random(run);
    }

    public static void main(String[] args) {
        int runs = args.length > 0 ? Integer.parseInt(args[0]) : RUNS;
        for (int run = 0; run < runs && Due.wrong() < 20; run++) {
            ModelTest test = new ModelTest(run);
            if (run % 10 == 0) {
                test.askAll();
            } else {
                test.askAtRandom();
            }
        }
        Due.finish("ModelTest");
    }

    private void due(String call, long got, long want) {
        calls++;
        callsOfObject++;
        Due.is("run " + run + " call " + calls + ": " + call, got, want);
    }

    private void due(String call, boolean got, boolean want) {
        due(call, got ? 1 : 0, want ? 1 : 0);
    }

    // ---- calls at random

    private void askAtRandom() {
        told(0, NONE, archiveText());
        told(1, NONE, questionsText());
        told(2, NONE, huntText());
        while (calls < CALLS - 40) {
            int which = random.nextInt(100);
            if (which < 2) {
                told(0, at(), random.nextInt(3) > 0 ? archiveText() : spoilt(archiveText()));
            } else if (which < 4) {
                told(1, at(), random.nextInt(3) > 0 ? questionsText() : spoilt(questionsText()));
            } else if (which < 6) {
                told(2, at(), random.nextInt(3) > 0 ? huntText() : spoilt(huntText()));
            } else if (which == 6) {
                told(random.nextInt(6) - 2, random.nextInt(6) - 3, random.nextBoolean() ? archiveText() : huntText());
            } else if (which == 7) {
                tapeCall();
            } else if (which == 8) {
                imageCall();
            } else {
                ask();
            }
        }
    }

    private static final int NONE = -1;

    private int at() {
        return random.nextInt(4) == 0 ? NONE : random.nextInt(2);
    }

    private void tapeCall() {
        if (random.nextBoolean()) {
            int n = random.nextInt(700) - 20;
            due("end(" + n + ")", x.end(n), model.end(n));
        } else {
            int[] f = {random.nextInt(), random.nextInt(), random.nextInt(), 0x646f6320, 0x6120623b};
            due("feed", x.feed(f[0], f[1], f[2], f[3], f[4]), model.feed(f[0], f[1], f[2], f[3], f[4]));
        }
    }

    private void imageCall() {
        int k = random.nextInt(5) - 1;
        if (random.nextBoolean()) {
            due("image(" + k + ")", x.image(k), model.image(k));
        } else {
            due("again(" + k + ")", x.again(k), model.again(k));
        }
    }

    private void told(int sort, int at, String text) {
        byte[] bytes = text.getBytes(StandardCharsets.ISO_8859_1);
        if (random.nextInt(10) > 0) {
            due("end(0)", x.end(0), model.end(0));
        }
        for (int from = 0; from < bytes.length; from += 20) {
            int[] f = new int[5];
            for (int i = 0; i < 20; i++) {
                f[i / 4] = f[i / 4] << 8 | (from + i < bytes.length ? bytes[from + i] & 255 : random.nextBoolean() ? 32 : 10);
            }
            due("feed", x.feed(f[0], f[1], f[2], f[3], f[4]), model.feed(f[0], f[1], f[2], f[3], f[4]));
        }
        if (random.nextInt(4) > 0) {
            due("end(" + bytes.length + ")", x.end(bytes.length), model.end(bytes.length));
        }
        int number = x.text(sort, at);
        due("text(" + sort + ", " + at + ") " + text, number, model.text(sort, at));
        if (number >= 0 && number < 2) {
            kept[sort][number] = text;
        }
        due("fault(0) " + text, x.fault(0), model.fault(0));
        due("fault(1) " + text, x.fault(1), model.fault(1));
    }

    /** Goes on with a new object that is told the same, where so many calls more would be too many for this one. */
    private void haveRoom(int more) {
        if (callsOfObject + more <= CALLS) {
            return;
        }
        x = new VersionSearch();
        model = new Model();
        callsOfObject = 0;
        for (int sort = 0; sort < kept.length; sort++) {
            for (String text : kept[sort]) {
                if (text != null) {
                    told(sort, NONE, text);
                }
            }
        }
    }

    // ---- texts at random

    /** Once in so many times, what will mostly be a fault; never in a strict text. */
    private boolean odd(int once) {
        return !strict && random.nextInt(once) == 0;
    }

    private String word() {
        if (odd(60)) {
            return random.nextBoolean() ? "abcde" : "phrase";
        }
        return WORDS[random.nextInt(random.nextInt(4) == 0 ? WORDS.length : 5)];
    }

    private String words(int n) {
        StringBuilder words = new StringBuilder();
        for (int i = 0; i < n; i++) {
            words.append(' ').append(word());
        }
        return words.toString();
    }

    /** A number that is mostly below a bound. */
    private int below(int bound) {
        return odd(60) ? random.nextInt(100) : random.nextInt(Math.max(1, bound));
    }

    private String archiveText() {
        StringBuilder text = new StringBuilder();
        List<List<Integer>> lengths = new ArrayList<>();
        int lines = random.nextInt(40) + 1;
        strict = random.nextInt(3) > 0;
        for (int i = 0; i < lines; i++) {
            String line;
            if (lengths.isEmpty() || lengths.size() < 4 && random.nextInt(6) == 0 || odd(120)) {
                int n = random.nextInt(10) == 0 ? random.nextInt(strict ? 21 : 23) : random.nextInt(7);
                line = "doc" + words(n);
                lengths.add(new ArrayList<>(List.of(n)));
            } else {
                line = change(lengths);
            }
            if (line.isEmpty() || text.length() + line.length() + 2 > 600) {
                break;
            }
            text.append(line).append(random.nextInt(5) == 0 ? "; " : ";");
        }
        return text.toString();
    }

    private String change(List<List<Integer>> lengths) {
        int d = random.nextInt(lengths.size());
        for (int i = 0; i < lengths.size() && lengths.get(d).size() == 10 && !odd(10); i++) {
            d = i;
        }
        if (strict && lengths.get(d).size() == 10) {
            return "";
        }
        List<Integer> versions = lengths.get(d);
        int length = versions.get(versions.size() - 1);
        int told = odd(90) ? random.nextInt(6) : d;
        int n;
        int deed = random.nextInt(4);
        if (deed == 1 && length > 0) {
            int from = random.nextInt(length);
            n = 1 + random.nextInt(length - from);
            n = random.nextInt(3) == 0 ? n : 1;
            versions.add(length - n);
            return "cut " + told + " " + (odd(60) ? below(22) : from) + " " + (odd(60) ? below(22) : n);
        }
        if (deed == 2 && length > 0) {
            versions.add(length);
            return "move " + told + " " + below(length) + " " + below(length);
        }
        if (deed == 3) {
            int v = random.nextInt(versions.size());
            versions.add(versions.get(v));
            return "back " + told + " " + (odd(60) ? below(12) : v);
        }
        n = random.nextInt(12) == 0 ? random.nextInt(22) : random.nextInt(4);
        if (length + n > 20 && !odd(8)) {
            n = Math.max(0, 20 - length);
        }
        versions.add(Math.min(20, length + n));
        return "put " + told + " " + below(length + 1) + words(n);
    }

    private String questionsText() {
        StringBuilder text = new StringBuilder();
        strict = random.nextInt(3) > 0;
        int lines = random.nextInt(9) + (odd(20) ? 1 : 0);
        for (int k = 0; k < lines; k++) {
            switch (random.nextInt(k == 0 ? 3 : 8)) {
                case 0 -> text.append("phrase").append(words(odd(40) ? random.nextInt(7) : 1 + random.nextInt(3)));
                case 1 -> text.append("near").append(words(2)).append(' ').append(1 + below(9));
                case 2 -> text.append("many").append(words(1)).append(' ').append(1 + below(3));
                case 3 -> text.append("not ").append(below(k));
                case 4 -> text.append("ever ").append(below(k));
                case 5 -> text.append("new ").append(below(k));
                case 6 -> text.append("and ").append(below(k)).append(' ').append(below(k));
                default -> text.append("or ").append(below(k)).append(' ').append(below(k));
            }
            text.append(random.nextInt(4) == 0 ? ";\n" : ";");
        }
        return text.toString();
    }

    private String huntText() {
        StringBuilder text = new StringBuilder();
        strict = random.nextInt(3) > 0;
        int lines = random.nextInt(5) + (odd(10) ? 5 : 0);
        for (int k = 0; k < lines; k++) {
            text.append(random.nextBoolean() ? "in " : "out ").append(below(3)).append(' ').append(below(5)).append(';');
        }
        return text.toString();
    }

    /** A text with a byte changed, put or cut, or some of its end away. */
    private String spoilt(String text) {
        StringBuilder spoilt = new StringBuilder(text);
        for (int i = random.nextInt(2); i >= 0 && spoilt.length() > 0; i--) {
            int at = random.nextInt(spoilt.length());
            String signs = ";  0123456789abcz#A\u00e9\n\t";
            char sign = signs.charAt(random.nextInt(signs.length()));
            switch (random.nextInt(5)) {
                case 0 -> spoilt.setCharAt(at, sign);
                case 1 -> spoilt.insert(at, sign);
                case 2 -> spoilt.deleteCharAt(at);
                case 3 -> spoilt.insert(at, random.nextBoolean() ? " 7 " : " word ");
                default -> spoilt.setLength(at);
            }
        }
        return spoilt.length() > 600 ? spoilt.substring(0, 600) : spoilt.toString();
    }

    // ---- questions at random

    private int few(int most) {
        return random.nextInt(40) == 0 ? random.nextBoolean() ? random.nextInt() : -2 : random.nextInt(most + 2) - 1;
    }

    private int which() {
        return random.nextInt(15) == 0 ? random.nextInt(5) - 2 : random.nextInt(2);
    }

    private int document() {
        return random.nextInt(20) == 0 ? few(5) : random.nextInt(3);
    }

    private void ask() {
        int a = which();
        int q = which();
        int d = document();
        int v = few(9);
        int k = few(8);
        switch (random.nextInt(19)) {
            case 0 -> archive(a, random.nextInt(2) == 0 ? few(8) : 10 * random.nextInt(7) + d);
            case 1 -> version(a, d, v, random.nextInt(2) == 0 ? few(6) : 9 + random.nextInt(23));
            case 2 -> life(a, d, v, few(19), few(4));
            case 3 -> word(a, few(15), few(5));
            case 4 -> dated(a, few(41));
            case 5 -> shared(a, d, v, few(9));
            case 6 -> common(a, d, v, document(), few(9));
            case 7 -> question(q, k, random.nextInt(2) == 0 ? few(3) : 9 + random.nextInt(6));
            case 8 -> holds(a, q, k, d, v);
            case 9 -> spans(a, q, k, d, few(4), random.nextBoolean());
            case 10 -> times(a, q, k, d, v);
            case 11 -> found(a, q, k, random.nextInt(2) == 0 ? few(4) : random.nextBoolean() ? 10 + few(5) : 95 + random.nextInt(120));
            case 12 -> best(a, q, few(2));
            case 13 -> implies(a, q, k, few(8));
            case 14 -> fact(q, k, few(3));
            case 15 -> fits(a, q, random.nextInt(2) == 0 ? few(3) : 9 + random.nextInt(14));
            case 16, 17 -> drawn(a, random.nextInt(), random.nextInt(20) == 0 ? few(42) : random.nextInt(41), d, few(32));
            default -> count(few(3));
        }
    }

    /** The answers over all that two of each sort tell, edges of each argument too. */
    private void askAll() {
        for (int i = 0; i < 2; i++) {
            for (int tries = 0; tries < 20 && model.count(0) == i; tries++) {
                haveRoom(200);
                told(0, NONE, archiveText());
            }
            haveRoom(200);
            told(1, NONE, questionsText());
            told(2, NONE, huntText());
        }
        for (int a = -1; a < 3; a++) {
            haveRoom(160);
            for (int what = -1; what < 70; what++) {
                archive(a, what);
            }
            for (int date = -1; date < 42; date++) {
                dated(a, date);
                word(a, date, random.nextInt(7) - 1);
            }
            for (int d = -1; d < 5; d++) {
                for (int v = -1; v < 11; v++) {
                    haveRoom(80);
                    for (int what = -1; what < 32; what++) {
                        version(a, d, v, what);
                    }
                    for (int place = -1; place < 21; place++) {
                        life(a, d, v, place, random.nextInt(6) - 1);
                    }
                    for (int w = -1; w < 11; w++) {
                        shared(a, d, v, w);
                        common(a, d, v, random.nextInt(5), w);
                    }
                }
                haveRoom(43);
                for (int n = -1; n < 42; n++) {
                    drawn(a, random.nextInt(), n, d, random.nextInt(32) - 1);
                }
            }
            for (int q = -1; q < 3; q++) {
                askAllOfQuestions(a, q);
            }
        }
    }

    private void askAllOfQuestions(int a, int q) {
        haveRoom(93);
        for (int what = -1; what < 30; what++) {
            best(a, q, what);
            fits(a, q, what);
            fact(q, what - 5, random.nextInt(5) - 1);
        }
        for (int k = -1; k < 9; k++) {
            haveRoom(50);
            for (int what = -1; what < 16; what++) {
                question(q, k, what);
            }
            for (int what : new int[] {-1, 0, 1, 2, 3, 4, 9, 10, 11, 12, 13, 14, 99, 100, 101, 110, 120, 199, 200, 201, 202, 210}) {
                found(a, q, k, what);
            }
            for (int l = -1; l < 9; l++) {
                implies(a, q, k, l);
            }
            for (int d = -1; d < 5; d++) {
                haveRoom(36);
                for (int v = -1; v < 11; v++) {
                    holds(a, q, k, d, v);
                    times(a, q, k, d, v);
                    spans(a, q, k, d, v, v % 2 == 0);
                }
            }
        }
    }

    private void archive(int a, int what) {
        due("archive(" + a + ", " + what + ")", x.archive(a, what), model.archive(a, what));
    }

    private void version(int a, int d, int v, int what) {
        due("version(" + a + ", " + d + ", " + v + ", " + what + ")", x.version(a, d, v, what), model.version(a, d, v, what));
    }

    private void life(int a, int d, int v, int p, int what) {
        due("life(" + a + ", " + d + ", " + v + ", " + p + ", " + what + ")", x.life(a, d, v, p, what), model.life(a, d, v, p, what));
    }

    private void word(int a, int k, int what) {
        due("word(" + a + ", " + k + ", " + what + ")", x.word(a, k, what), model.word(a, k, what));
    }

    private void dated(int a, int date) {
        due("dated(" + a + ", " + date + ")", x.dated(a, date), model.dated(a, date));
    }

    private void shared(int a, int d, int v, int w) {
        due("shared(" + a + ", " + d + ", " + v + ", " + w + ")", x.shared(a, d, v, w), model.shared(a, d, v, w));
    }

    private void common(int a, int d, int v, int e, int w) {
        due("common(" + a + ", " + d + ", " + v + ", " + e + ", " + w + ")", x.common(a, d, v, e, w), model.common(a, d, v, e, w));
    }

    private void question(int q, int k, int what) {
        due("question(" + q + ", " + k + ", " + what + ")", x.question(q, k, what), model.question(q, k, what));
    }

    private void holds(int a, int q, int k, int d, int v) {
        due("holds(" + a + ", " + q + ", " + k + ", " + d + ", " + v + ")", x.holds(a, q, k, d, v), model.holds(a, q, k, d, v));
    }

    private void spans(int a, int q, int k, int d, int s, boolean last) {
        due("spans(" + a + ", " + q + ", " + k + ", " + d + ", " + s + ", " + last + ")",
                x.spans(a, q, k, d, s, last), model.spans(a, q, k, d, s, last));
    }

    private void times(int a, int q, int k, int d, int v) {
        due("times(" + a + ", " + q + ", " + k + ", " + d + ", " + v + ")", x.times(a, q, k, d, v), model.times(a, q, k, d, v));
    }

    private void found(int a, int q, int k, int what) {
        due("found(" + a + ", " + q + ", " + k + ", " + what + ")", x.found(a, q, k, what), model.found(a, q, k, what));
    }

    private void best(int a, int q, int what) {
        due("best(" + a + ", " + q + ", " + what + ")", x.best(a, q, what), model.best(a, q, what));
    }

    private void implies(int a, int q, int k, int l) {
        due("implies(" + a + ", " + q + ", " + k + ", " + l + ")", x.implies(a, q, k, l), model.implies(a, q, k, l));
    }

    private void fact(int h, int k, int what) {
        due("fact(" + h + ", " + k + ", " + what + ")", x.fact(h, k, what), model.fact(h, k, what));
    }

    private void fits(int a, int h, int what) {
        due("fits(" + a + ", " + h + ", " + what + ")", x.fits(a, h, what), model.fits(a, h, what));
    }

    private void drawn(int a, int seed, int n, int d, int what) {
        due("drawn(" + a + ", " + seed + ", " + n + ", " + d + ", " + what + ")", x.drawn(a, seed, n, d, what), model.drawn(a, seed, n, d, what));
    }

    private void count(int sort) {
        due("count(" + sort + ")", x.count(sort), model.count(sort));
    }
}
