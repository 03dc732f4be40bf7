import java.nio.charset.StandardCharsets;
import java.util.ArrayList;
import java.util.HashMap;
import java.util.HashSet;
import java.util.List;
import java.util.Map;
import java.util.Set;
import java.util.TreeMap;
import java.util.TreeSet;
import java.util.regex.Matcher;
import java.util.regex.Pattern;

/** The document's words in their plainest form, over lists and texts: it answers what VersionSearch must. */
final class Model {
    private static final int NONE = -1;

    record Token(int number, int document, String word) {
    }

    record Version(List<Token> row, int date) {
        List<String> words() {
            List<String> words = new ArrayList<>();
            for (Token token : row) {
                words.add(token.word());
            }
            return words;
        }
    }

    record Archive(List<List<Version>> documents, List<Token> tokens) {
        static Archive empty() {
            return new Archive(new ArrayList<>(), new ArrayList<>());
        }

        Archive copy() {
            Archive copy = empty();
            for (List<Version> document : documents) {
                copy.documents.add(new ArrayList<>(document));
            }
            copy.tokens.addAll(tokens);
            return copy;
        }

        Token tell(int document, String word) {
            Token token = new Token(tokens.size(), document, word);
            tokens.add(token);
            return token;
        }

        List<Token> latest(int document) {
            List<Version> versions = documents.get(document);
            return new ArrayList<>(versions.get(versions.size() - 1).row());
        }

        List<Version> all() {
            List<Version> all = new ArrayList<>();
            documents.forEach(all::addAll);
            return all;
        }

        boolean has(int document) {
            return document >= 0 && document < documents.size();
        }

        boolean has(int document, int version) {
            return has(document) && version >= 0 && version < documents.get(document).size();
        }

        Version get(int document, int version) {
            return documents.get(document).get(version);
        }

        List<Token> own(int document) {
            return tokens.stream().filter(t -> t.document() == document).toList();
        }

        List<Integer> stay(Token token) {
            List<Integer> stay = new ArrayList<>();
            List<Version> versions = documents.get(token.document());
            for (int v = 0; v < versions.size(); v++) {
                if (versions.get(v).row().contains(token)) {
                    stay.add(v);
                }
            }
            return stay;
        }

        TreeSet<String> words() {
            TreeSet<String> words = new TreeSet<>();
            tokens.forEach(t -> words.add(t.word()));
            return words;
        }
    }

    record Line(String keyword, List<String> parts) {
        int number(int i) {
            return Integer.parseInt(parts.get(i));
        }
    }

    private String tape = "";
    private int fault = 0;
    private int place = NONE;
    private List<Archive> archives = new ArrayList<>();
    private List<List<Line>> questions = new ArrayList<>();
    private List<List<Line>> hunts = new ArrayList<>();
    private final Object[][] images = new Object[3][];

    int feed(int a, int b, int c, int d, int e) {
        if (tape.length() + 20 > 600) {
            return NONE;
        }
        for (int four : new int[] {a, b, c, d, e}) {
            byte[] bytes = {(byte) (four >> 24), (byte) (four >> 16), (byte) (four >> 8), (byte) four};
            tape += new String(bytes, StandardCharsets.ISO_8859_1);
        }
        return tape.length();
    }

    int end(int n) {
        if (n < 0 || n > tape.length()) {
            return NONE;
        }
        tape = tape.substring(0, n);
        return n;
    }

    // ---- texts

    private static final Pattern TOKEN = Pattern.compile("[a-z]+|[0-9]+|;");

    private record Piece(String text, int place) {
        boolean isWord() {
            return text.matches("[a-z]+");
        }

        boolean isNumber() {
            return text.matches("[0-9]{1,2}");
        }
    }

    int text(int sort, int at) {
        String told = tape;
        tape = "";
        fault = 0;
        place = NONE;
        if (sort < 0 || sort > 2) {
            return -2;
        }
        int have = sort == 0 ? archives.size() : sort == 1 ? questions.size() : hunts.size();
        if (at == NONE ? have == 2 : at < 0 || at >= have) {
            return -2;
        }
        List<List<Piece>> lines = new ArrayList<>();
        noText(told, sort, lines);
        if (fault != 0) {
            return NONE;
        }
        Archive archive = Archive.empty();
        List<Line> others = new ArrayList<>();
        for (int i = 0; i < lines.size() && fault == 0; i++) {
            TreeMap<Integer, Integer> faults = new TreeMap<>();
            if (sort == 0) {
                archiveLine(archive, lines.get(i), i, faults);
            } else {
                otherLine(others, lines.get(i), faults);
            }
            if (!faults.isEmpty()) {
                place = faults.firstKey();
                fault = faults.get(place);
            }
        }
        if (fault != 0) {
            return NONE;
        }
        int number = at == NONE ? have : at;
        if (sort == 0) {
            keep(archives, number, archive);
        } else {
            keep(sort == 1 ? questions : hunts, number, others);
        }
        return number;
    }

    private static <T> void keep(List<T> list, int number, T told) {
        if (number == list.size()) {
            list.add(told);
        } else {
            list.set(number, told);
        }
    }

    private static final Map<String, String> SHAPES = new HashMap<>();

    static {
        SHAPES.put("doc", "0 W*");
        SHAPES.put("put", "0 NNW*");
        SHAPES.put("cut", "0 NNN");
        SHAPES.put("move", "0 NNN");
        SHAPES.put("back", "0 NN");
        SHAPES.put("phrase", "1 WW*");
        SHAPES.put("near", "1 WWN");
        SHAPES.put("many", "1 WN");
        SHAPES.put("not", "1 N");
        SHAPES.put("ever", "1 N");
        SHAPES.put("new", "1 N");
        SHAPES.put("and", "1 NN");
        SHAPES.put("or", "1 NN");
        SHAPES.put("in", "2 NN");
        SHAPES.put("out", "2 NN");
    }

    /** The first token with which no text goes on, found by asking of each beginning whether a shape goes on with it. */
    private void noText(String told, int sort, List<List<Piece>> lines) {
        List<Piece> line = new ArrayList<>();
        int at = 0;
        while (true) {
            while (at < told.length() && (told.charAt(at) == 10 || told.charAt(at) == 32)) {
                at++;
            }
            if (at == told.length()) {
                if (!line.isEmpty()) {
                    fault = 1;
                    place = at;
                }
                return;
            }
            Matcher matcher = TOKEN.matcher(told).region(at, told.length());
            if (!matcher.lookingAt()) {
                fault = 1;
                place = at;
                return;
            }
            line.add(new Piece(matcher.group(), at));
            if (!goesOn(line, sort)) {
                fault = 1;
                place = at;
                return;
            }
            if (matcher.group().equals(";")) {
                lines.add(line);
                line = new ArrayList<>();
            }
            at = matcher.end();
        }
    }

    private static boolean goesOn(List<Piece> line, int sort) {
        String shape = SHAPES.get(line.get(0).text());
        if (shape == null || shape.charAt(0) - '0' != sort) {
            return false;
        }
        String form = "";
        for (Piece piece : line.subList(1, line.size())) {
            form += piece.isWord() ? "W" : piece.isNumber() ? "N" : piece.text().equals(";") ? ";" : "?";
        }
        Matcher matcher = Pattern.compile(shape.substring(2) + ";").matcher(form);
        return matcher.matches() || matcher.hitEnd();
    }

    private static void note(Map<Integer, Integer> faults, int fault, int place) {
        faults.merge(place, fault, Math::min);
    }

    private static boolean numberCanBe(String keyword, int i, int n, int own) {
        switch (keyword) {
            case "put":
                return i == 0 ? n <= 3 : n <= 20;
            case "cut":
                return i == 0 ? n <= 3 : i == 1 ? n <= 19 : n >= 1 && n <= 20;
            case "move":
                return i == 0 ? n <= 3 : n <= 19;
            case "back", "in", "out":
                return i == 0 ? n <= 3 : n <= 9;
            case "near", "many":
                return n >= 1 && n <= 9;
            default:
                return n <= 7 && n < own;
        }
    }

    /** Notes what can't be; answers whether all can be. */
    private static boolean allCanBe(List<Piece> line, int own, Map<Integer, Integer> faults) {
        boolean all = true;
        int numbers = 0;
        for (Piece piece : line.subList(1, line.size())) {
            boolean can = true;
            if (piece.isNumber()) {
                can = numberCanBe(line.get(0).text(), numbers++, Integer.parseInt(piece.text()), own);
            } else if (piece.isWord()) {
                can = piece.text().length() <= 4;
            }
            if (!can) {
                note(faults, 2, piece.place());
                all = false;
            }
        }
        return all;
    }

    private static List<Piece> only(List<Piece> line, boolean words) {
        return line.subList(1, line.size()).stream().filter(p -> words ? p.isWord() : p.isNumber()).toList();
    }

    private static void archiveLine(Archive archive, List<Piece> line, int date, Map<Integer, Integer> faults) {
        String keyword = line.get(0).text();
        int first = line.get(0).place();
        boolean can = allCanBe(line, 0, faults);
        List<Piece> words = only(line, true);
        List<Integer> n = new ArrayList<>();
        for (Piece piece : only(line, false)) {
            n.add(Integer.parseInt(piece.text()));
        }
        if (keyword.equals("doc")) {
            if (archive.documents().size() == 4) {
                note(faults, 3, first);
            }
            if (words.size() > 20) {
                note(faults, 3, words.get(20).place());
            }
            if (faults.isEmpty()) {
                int document = archive.documents().size();
                List<Token> row = new ArrayList<>();
                archive.documents().add(new ArrayList<>());
                words.forEach(w -> row.add(archive.tell(document, w.text())));
                archive.documents().get(document).add(new Version(row, date));
            }
            return;
        }
        int document = n.get(0);
        boolean has = archive.has(document);
        List<Token> row = has ? archive.latest(document) : new ArrayList<>();
        if (can) {
            if (has && archive.documents().get(document).size() == 10) {
                note(faults, 3, first);
            }
            boolean there = has;
            if (has) {
                there = switch (keyword) {
                    case "put" -> n.get(1) <= row.size();
                    case "cut" -> n.get(1) + n.get(2) <= row.size();
                    case "move" -> n.get(1) < row.size() && n.get(2) <= row.size() - 1;
                    default -> archive.has(document, n.get(1));
                };
            }
            if (!there) {
                note(faults, 4, first);
            }
        }
        for (int i = 0; i < words.size(); i++) {
            if (row.size() + i >= 20) {
                note(faults, 3, words.get(i).place());
                break;
            }
        }
        if (!faults.isEmpty()) {
            return;
        }
        switch (keyword) {
            case "put" -> {
                List<Token> put = new ArrayList<>();
                words.forEach(w -> put.add(archive.tell(document, w.text())));
                row.addAll(n.get(1), put);
            }
            case "cut" -> row.subList(n.get(1), n.get(1) + n.get(2)).clear();
            case "move" -> row.add(n.get(2), row.remove((int) n.get(1)));
            default -> row = new ArrayList<>(archive.get(document, n.get(1)).row());
        }
        archive.documents().get(document).add(new Version(row, date));
    }

    private static void otherLine(List<Line> lines, List<Piece> line, Map<Integer, Integer> faults) {
        String keyword = line.get(0).text();
        allCanBe(line, lines.size(), faults);
        if (lines.size() == 8) {
            note(faults, 3, line.get(0).place());
        }
        List<Piece> words = only(line, true);
        if (words.size() > 4) {
            note(faults, 3, words.get(4).place());
        }
        List<String> parts = new ArrayList<>();
        line.subList(1, line.size() - 1).forEach(p -> parts.add(p.text()));
        lines.add(new Line(keyword, parts));
    }

    int fault(int what) {
        return what == 0 ? fault : what == 1 ? place : NONE;
    }

    // ---- archives

    private static <T> T at(List<T> list, int i) {
        return i >= 0 && i < list.size() ? list.get(i) : null;
    }

    static int number(String word) {
        int number = 0;
        for (char letter : word.toCharArray()) {
            number = 27 * number + (letter - 'a' + 1);
        }
        return number;
    }

    private static int runs(List<Integer> stay) {
        int runs = 0;
        for (int v : stay) {
            if (!stay.contains(v - 1)) {
                runs++;
            }
        }
        return runs;
    }

    int archive(int archive, int what) {
        Archive a = at(archives, archive);
        if (a == null) {
            return -2;
        }
        switch (what) {
            case 0:
                return a.documents().size();
            case 1:
                return a.all().size();
            case 2:
                return a.all().stream().mapToInt(v -> v.row().size()).sum();
            case 3:
                return a.tokens().size();
            case 4:
                return a.tokens().stream().mapToInt(t -> runs(a.stay(t))).sum();
            case 5:
                int longest = NONE;
                for (int d = a.documents().size() - 1; d >= 0; d--) {
                    if (longest == NONE || a.latest(d).size() >= a.latest(longest).size()) {
                        longest = d;
                    }
                }
                return longest;
            case 6:
                int twins = 0;
                for (Version v : a.all()) {
                    for (Version w : a.all()) {
                        twins += v.date() < w.date() && v.words().equals(w.words()) ? 1 : 0;
                    }
                }
                return twins;
            case 7:
                return a.words().size();
            default:
                int d = Math.floorMod(what, 10);
                if (what < 10 || !a.has(d) || what >= 60) {
                    return -2;
                }
                return what < 20 ? a.documents().get(d).size()
                        : what < 30 ? passages(a, d).size()
                        : what < 40 ? passages(a, d).stream().mapToInt(Set::size).max().orElse(0)
                        : what < 50 ? (int) a.own(d).stream().filter(t -> a.stay(t).size() == a.documents().get(d).size()).count()
                        : returns(a.documents().get(d));
        }
    }

    private static List<Set<Token>> passages(Archive a, int d) {
        List<Set<Token>> passages = new ArrayList<>();
        a.own(d).forEach(t -> passages.add(new HashSet<>(Set.of(t))));
        for (Token s : a.own(d)) {
            for (Token t : a.own(d)) {
                if (s != t && a.stay(s).equals(a.stay(t)) && a.stay(s).stream().allMatch(v -> {
                    List<Token> row = a.get(d, v).row();
                    return row.indexOf(t) == row.indexOf(s) + 1;
                })) {
                    Set<Token> one = passages.stream().filter(p -> p.contains(s)).findFirst().get();
                    Set<Token> other = passages.stream().filter(p -> p.contains(t)).findFirst().get();
                    if (one != other) {
                        passages.removeIf(p -> p == other);
                        passages.removeIf(p -> p == one);
                        Set<Token> both = new HashSet<>(one);
                        both.addAll(other);
                        passages.add(both);
                    }
                }
            }
        }
        return passages;
    }

    private static int returns(List<Version> versions) {
        int returns = 0;
        for (int v = 1; v < versions.size(); v++) {
            List<String> words = versions.get(v).words();
            if (!words.equals(versions.get(v - 1).words())
                    && versions.subList(0, v).stream().anyMatch(w -> w.words().equals(words))) {
                returns++;
            }
        }
        return returns;
    }

    int version(int archive, int document, int version, int what) {
        Archive a = at(archives, archive);
        if (a == null || !a.has(document, version)) {
            return NONE;
        }
        List<Token> row = a.get(document, version).row();
        List<Token> before = version == 0 ? List.of() : a.get(document, version - 1).row();
        switch (what) {
            case 0:
                return row.size();
            case 1:
                return a.get(document, version).date();
            case 2:
                return (int) row.stream().filter(t -> a.documents().get(document).subList(0, version).stream()
                        .noneMatch(v -> v.row().contains(t))).count();
            case 3:
                return (int) before.stream().filter(t -> !row.contains(t)).count();
            case 4:
                int turned = 0;
                for (Token s : row) {
                    for (Token t : row) {
                        if (row.indexOf(s) < row.indexOf(t) && before.contains(s) && before.contains(t)
                                && before.indexOf(s) > before.indexOf(t)) {
                            turned++;
                        }
                    }
                }
                return turned;
            case 5:
                int best = NONE;
                long most = 0;
                for (int p = 0; p < row.size(); p++) {
                    long age = a.stay(row.get(p)).stream().filter(v -> v <= version).count();
                    if (age > most) {
                        most = age;
                        best = p;
                    }
                }
                return best;
            default:
                return what >= 10 && what - 10 < row.size() ? number(row.get(what - 10).word()) : NONE;
        }
    }

    int life(int archive, int document, int version, int place, int what) {
        Archive a = at(archives, archive);
        if (a == null || !a.has(document, version) || at(a.get(document, version).row(), place) == null) {
            return NONE;
        }
        List<Integer> stay = a.stay(a.get(document, version).row().get(place));
        return switch (what) {
            case 0 -> stay.get(0);
            case 1 -> stay.get(stay.size() - 1);
            case 2 -> stay.size();
            case 3 -> runs(stay);
            default -> NONE;
        };
    }

    int word(int archive, int k, int what) {
        Archive a = at(archives, archive);
        String word = a == null ? null : at(new ArrayList<>(a.words()), k);
        if (word == null) {
            return NONE;
        }
        List<Version> with = a.all().stream().filter(v -> v.words().contains(word)).toList();
        switch (what) {
            case 0:
                return number(word);
            case 1:
                return with.size();
            case 2:
                int bits = 0;
                for (int d = 0; d < a.documents().size(); d++) {
                    if (a.documents().get(d).stream().anyMatch(with::contains)) {
                        bits += 1 << d;
                    }
                }
                return bits;
            case 3:
                return with.stream().mapToInt(Version::date).min().orElse(NONE);
            case 4:
                return with.stream().mapToInt(v -> (int) v.words().stream().filter(word::equals).count()).max().orElse(0);
            default:
                return NONE;
        }
    }

    int dated(int archive, int date) {
        Archive a = at(archives, archive);
        for (int d = 0; a != null && d < a.documents().size(); d++) {
            if (a.documents().get(d).stream().anyMatch(v -> v.date() == date)) {
                return d;
            }
        }
        return NONE;
    }

    int shared(int archive, int document, int x, int y) {
        Archive a = at(archives, archive);
        if (a == null || !a.has(document, x) || !a.has(document, y)) {
            return NONE;
        }
        Set<Token> both = new HashSet<>(a.get(document, x).row());
        both.retainAll(a.get(document, y).row());
        return both.size();
    }

    int common(int archive, int x, int v, int y, int w) {
        Archive a = at(archives, archive);
        if (a == null || !a.has(x, v) || !a.has(y, w)) {
            return NONE;
        }
        List<String> one = a.get(x, v).words();
        List<String> other = a.get(y, w).words();
        int[][] best = new int[one.size() + 1][other.size() + 1];
        for (int i = one.size() - 1; i >= 0; i--) {
            for (int j = other.size() - 1; j >= 0; j--) {
                best[i][j] = one.get(i).equals(other.get(j)) ? 1 + best[i + 1][j + 1] : Math.max(best[i + 1][j], best[i][j + 1]);
            }
        }
        return best[0][0];
    }

    // ---- questions

    private static final List<String> KINDS = List.of("phrase", "near", "many", "not", "ever", "new", "and", "or");

    int question(int questions, int k, int what) {
        List<Line> q = at(this.questions, questions);
        if (q == null) {
            return -2;
        }
        if (k == NONE) {
            return what == 0 ? q.size() : -2;
        }
        Line line = at(q, k);
        if (line == null) {
            return -2;
        }
        List<String> words = line.parts().stream().filter(p -> p.matches("[a-z]+")).toList();
        List<String> numbers = line.parts().stream().filter(p -> p.matches("[0-9]+")).toList();
        if (what == 0) {
            return KINDS.indexOf(line.keyword());
        }
        if (what == 1 || what == 2) {
            if (line.keyword().equals("phrase")) {
                return what == 1 ? words.size() : NONE;
            }
            return what <= numbers.size() ? Integer.parseInt(numbers.get(what - 1)) : NONE;
        }
        return what >= 10 && what - 10 < words.size() ? number(words.get(what - 10)) : -2;
    }

    private static int beginnings(List<String> words, List<String> phrase) {
        int n = 0;
        for (int p = 0; p + phrase.size() <= words.size(); p++) {
            n += words.subList(p, p + phrase.size()).equals(phrase) ? 1 : 0;
        }
        return n;
    }

    private static boolean holds(Archive a, List<Line> q, int k, int d, int v) {
        Line line = q.get(k);
        List<String> words = a.get(d, v).words();
        switch (line.keyword()) {
            case "phrase":
                return beginnings(words, line.parts()) > 0;
            case "near":
                for (int i = 0; i < words.size(); i++) {
                    for (int j = Math.max(0, i - line.number(2)); j <= i + line.number(2) && j < words.size(); j++) {
                        if (i != j && words.get(i).equals(line.parts().get(0)) && words.get(j).equals(line.parts().get(1))) {
                            return true;
                        }
                    }
                }
                return false;
            case "many":
                return words.stream().filter(line.parts().get(0)::equals).count() >= line.number(1);
            case "not":
                return !holds(a, q, line.number(0), d, v);
            case "ever":
                for (int w = 0; w <= v; w++) {
                    if (holds(a, q, line.number(0), d, w)) {
                        return true;
                    }
                }
                return false;
            case "new":
                return holds(a, q, line.number(0), d, v) && (v == 0 || !holds(a, q, line.number(0), d, v - 1));
            case "and":
                return holds(a, q, line.number(0), d, v) && holds(a, q, line.number(1), d, v);
            default:
                return holds(a, q, line.number(0), d, v) || holds(a, q, line.number(1), d, v);
        }
    }

    private static List<Integer> held(Archive a, List<Line> q, int k, int d) {
        List<Integer> held = new ArrayList<>();
        for (int v = 0; v < a.documents().get(d).size(); v++) {
            if (holds(a, q, k, d, v)) {
                held.add(v);
            }
        }
        return held;
    }

    int holds(int archive, int questions, int k, int document, int version) {
        Archive a = at(archives, archive);
        List<Line> q = at(this.questions, questions);
        if (a == null || q == null || at(q, k) == null || !a.has(document, version)) {
            return NONE;
        }
        return holds(a, q, k, document, version) ? 1 : 0;
    }

    int spans(int archive, int questions, int k, int document, int span, boolean last) {
        Archive a = at(archives, archive);
        List<Line> q = at(this.questions, questions);
        if (a == null || q == null || at(q, k) == null || !a.has(document)) {
            return NONE;
        }
        List<int[]> spans = new ArrayList<>();
        for (int v : held(a, q, k, document)) {
            if (!spans.isEmpty() && spans.get(spans.size() - 1)[1] == v - 1) {
                spans.get(spans.size() - 1)[1] = v;
            } else {
                spans.add(new int[] {v, v});
            }
        }
        if (span == NONE) {
            return spans.size();
        }
        return at(spans, span) == null ? NONE : spans.get(span)[last ? 1 : 0];
    }

    int times(int archive, int questions, int k, int document, int version) {
        Archive a = at(archives, archive);
        List<Line> q = at(this.questions, questions);
        if (a == null || q == null || at(q, k) == null || !a.has(document, version) || !q.get(k).keyword().equals("phrase")) {
            return NONE;
        }
        return beginnings(a.get(document, version).words(), q.get(k).parts());
    }

    private static int asOf(Archive a, List<Line> q, int k, int date) {
        int bits = 0;
        for (int d = 0; d < a.documents().size(); d++) {
            int latest = NONE;
            for (int v = 0; v < a.documents().get(d).size(); v++) {
                if (a.get(d, v).date() <= date) {
                    latest = v;
                }
            }
            if (latest != NONE && holds(a, q, k, d, latest)) {
                bits += 1 << d;
            }
        }
        return bits;
    }

    int found(int archive, int questions, int k, int what) {
        Archive a = at(archives, archive);
        List<Line> q = at(this.questions, questions);
        if (a == null || q == null || at(q, k) == null) {
            return NONE;
        }
        int ever = 0;
        int always = 0;
        int all = 0;
        List<Integer> rank = new ArrayList<>();
        for (int d = 0; d < a.documents().size(); d++) {
            int n = held(a, q, k, d).size();
            ever += n > 0 ? 1 << d : 0;
            always += n == a.documents().get(d).size() ? 1 << d : 0;
            all += n;
            rank.add(d);
        }
        rank.sort((x, y) -> {
            int more = held(a, q, k, y).size() - held(a, q, k, x).size();
            int latest = (holds(a, q, k, y, a.documents().get(y).size() - 1) ? 1 : 0)
                    - (holds(a, q, k, x, a.documents().get(x).size() - 1) ? 1 : 0);
            return more != 0 ? more : latest != 0 ? latest : x - y;
        });
        List<Integer> changes = new ArrayList<>();
        for (int date = 0; date < 100; date++) {
            if (asOf(a, q, k, date) != (date == 0 ? 0 : asOf(a, q, k, date - 1))) {
                changes.add(date);
            }
        }
        if (what < 10) {
            return what == 0 ? ever : what == 1 ? always : what == 2 ? changes.size() : what == 3 ? all : NONE;
        }
        Integer found = what < 100 ? at(rank, what - 10) : what < 200 ? (Integer) asOf(a, q, k, what - 100) : at(changes, what - 200);
        return found == null ? NONE : found;
    }

    private static List<Integer> heldAnywhere(Archive a, List<Line> q, int k) {
        List<Integer> all = new ArrayList<>();
        for (int d = 0; d < a.documents().size(); d++) {
            for (int v : held(a, q, k, d)) {
                all.add(100 * d + v);
            }
        }
        return all;
    }

    int best(int archive, int questions, int what) {
        Archive a = at(archives, archive);
        List<Line> q = at(this.questions, questions);
        if (a == null || q == null || what < 0 || what > 1) {
            return -2;
        }
        int best = NONE;
        int same = 0;
        for (int k = 0; k < q.size(); k++) {
            if (best == NONE || heldAnywhere(a, q, k).size() > heldAnywhere(a, q, best).size()) {
                best = k;
            }
            for (int l = k + 1; l < q.size(); l++) {
                same += heldAnywhere(a, q, k).equals(heldAnywhere(a, q, l)) ? 1 : 0;
            }
        }
        return what == 0 ? best : same;
    }

    int implies(int archive, int questions, int x, int y) {
        Archive a = at(archives, archive);
        List<Line> q = at(this.questions, questions);
        if (a == null || q == null || at(q, x) == null || at(q, y) == null) {
            return NONE;
        }
        return heldAnywhere(a, q, y).containsAll(heldAnywhere(a, q, x)) ? 1 : 0;
    }

    // ---- hunts, drawing, images

    int fact(int hunt, int k, int what) {
        List<Line> h = at(hunts, hunt);
        if (h == null) {
            return -2;
        }
        if (k == NONE) {
            return what == 0 ? h.size() : -2;
        }
        if (at(h, k) == null) {
            return -2;
        }
        return switch (what) {
            case 0 -> h.get(k).keyword().equals("in") ? 1 : 0;
            case 1, 2 -> h.get(k).number(what - 1);
            default -> -2;
        };
    }

    int fits(int archive, int hunt, int what) {
        Archive a = at(archives, archive);
        List<Line> h = at(hunts, hunt);
        if (a == null || h == null) {
            return -2;
        }
        List<String> fit = a.words().stream().filter(word -> h.stream().allMatch(line -> {
            boolean in = a.has(line.number(0), line.number(1)) && a.get(line.number(0), line.number(1)).words().contains(word);
            return in == line.keyword().equals("in");
        })).toList();
        switch (what) {
            case 0:
                return fit.size();
            case 1:
                return fit.stream().map(w -> w.charAt(0)).distinct().count() == 1 ? fit.get(0).charAt(0) - 'a' + 1 : NONE;
            case 2:
                int ask = NONE;
                int least = Integer.MAX_VALUE;
                for (int d = 0; d < a.documents().size() && !fit.isEmpty(); d++) {
                    for (int v = 0; v < a.documents().get(d).size(); v++) {
                        int in = (int) fit.stream().filter(a.get(d, v).words()::contains).count();
                        if (Math.max(in, fit.size() - in) < least) {
                            least = Math.max(in, fit.size() - in);
                            ask = 10 * d + v;
                        }
                    }
                }
                return ask;
            default:
                return what >= 10 && what - 10 < fit.size() ? number(fit.get(what - 10)) : -2;
        }
    }

    private int seed;

    private int below(int n) {
        seed = (int) (seed * 1103515245L + 12345L);
        return (int) ((seed & 0xffffffffL) >> 16) % n;
    }

    int drawn(int archive, int seed, int n, int document, int what) {
        Archive told = at(archives, archive);
        if (told == null || !told.has(document) || n < 0 || n > 40) {
            return NONE;
        }
        Archive a = told.copy();
        this.seed = seed;
        for (int i = 0; i < n; i++) {
            int d = below(a.documents().size());
            int deed = below(6);
            List<Token> row = a.latest(d);
            boolean full = a.documents().get(d).size() == 10;
            if ((deed < 2 || deed == 4) && row.isEmpty() || (deed == 2 || deed == 3) && a.own(d).isEmpty()) {
                continue;
            }
            if (deed < 2) {
                row.remove(below(row.size()));
            } else if (deed < 4) {
                int p = below(row.size() + 1);
                if (full || row.size() == 20) {
                    continue;
                }
                row.add(p, a.tell(d, a.own(d).get(0).word()));
            } else if (deed == 4) {
                Token token = row.remove(below(row.size()));
                row.add(below(row.size() + 1), token);
            } else {
                row = a.get(d, below(a.documents().get(d).size())).row();
            }
            if (!full) {
                a.documents().get(d).add(new Version(row, NONE));
            }
        }
        List<Token> latest = a.latest(document);
        return switch (what) {
            case 0 -> a.documents().get(document).size();
            case 1 -> latest.size();
            case 2 -> a.own(document).size();
            default -> what >= 10 && what - 10 < latest.size() ? number(latest.get(what - 10).word()) : NONE;
        };
    }

    int count(int sort) {
        return sort == 0 ? archives.size() : sort == 1 ? questions.size() : sort == 2 ? hunts.size() : -2;
    }

    boolean image(int k) {
        if (k < 0 || k > 2) {
            return false;
        }
        images[k] = new Object[] {tape, fault, place, new ArrayList<>(archives), new ArrayList<>(questions), new ArrayList<>(hunts)};
        return true;
    }

    @SuppressWarnings("unchecked")
    boolean again(int k) {
        if (k < 0 || k > 2 || images[k] == null) {
            return false;
        }
        tape = (String) images[k][0];
        fault = (Integer) images[k][1];
        place = (Integer) images[k][2];
        archives = new ArrayList<>((List<Archive>) images[k][3]);
        questions = new ArrayList<>((List<List<Line>>) images[k][4]);
        hunts = new ArrayList<>((List<List<Line>>) images[k][5]);
        return true;
    }
}
