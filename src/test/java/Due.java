import java.nio.charset.StandardCharsets;

/** What the tests have in common: to feed a text, and to tell an answer that is not due. */
final class Due {
    private static final int MOST_TOLD = 50;
    private static int wrong = 0;
    private static String sentence = "";

    private Due() {
    }

    /** The words of the document that the checks from here on are about. */
    static void sentence(String words) {
        sentence = words;
    }

    static void is(String call, long got, long want) {
        if (got != want) {
            wrong++;
            String about = sentence.isEmpty() ? "" : "'" + sentence + "': ";
            if (wrong <= MOST_TOLD) {
                System.out.println(about + call + " answered " + got + ", due is " + want);
            }
        }
    }

    static void is(String call, boolean got, boolean want) {
        is(call, got ? 1 : 0, want ? 1 : 0);
    }

    static void finish(String name) {
        System.out.println(name + (wrong == 0 ? ": all answers are as due" : ": " + wrong + " answers are not as due"));
        if (wrong != 0) {
            System.exit(1);
        }
    }

    static int wrong() {
        return wrong;
    }

    /** Puts a text on the empty tape; its last feed is filled with blanks and cut off again. */
    static void tape(VersionSearch x, String text) {
        byte[] bytes = text.getBytes(StandardCharsets.ISO_8859_1);
        int fed = 0;
        for (int at = 0; at < bytes.length; at += 20) {
            int[] five = new int[5];
            for (int i = 0; i < 20; i++) {
                int next = at + i < bytes.length ? bytes[at + i] & 255 : 32;
                five[i / 4] = five[i / 4] << 8 | next;
            }
            fed = x.feed(five[0], five[1], five[2], five[3], five[4]);
        }
        if (fed != 0) {
            x.end(bytes.length);
        }
    }

    static int text(VersionSearch x, int sort, int at, String text) {
        tape(x, text);
        return x.text(sort, at);
    }

    /** A new object with one text of each sort. */
    static VersionSearch with(String archive, String questions, String hunt) {
        VersionSearch x = new VersionSearch();
        is("archive text " + archive, text(x, 0, VersionSearch.NONE, archive), 0);
        is("questions text " + questions, text(x, 1, VersionSearch.NONE, questions), 0);
        is("hunt text " + hunt, text(x, 2, VersionSearch.NONE, hunt), 0);
        return x;
    }

    /** The fault of a text on a new object, and that nothing is told by it, if there is one. */
    static void faultIs(int sort, String text, int fault, int place) {
        VersionSearch x = new VersionSearch();
        is("text of " + text, text(x, sort, VersionSearch.NONE, text), fault == 0 ? 0 : VersionSearch.NONE);
        is("fault of " + text, x.fault(0), fault);
        is("place of fault of " + text, x.fault(1), place);
        is("count after " + text, x.count(sort), fault == 0 ? 1 : 0);
        is("tape after " + text, x.end(1), VersionSearch.NONE);
    }

    static void noFault(int sort, String text) {
        faultIs(sort, text, 0, VersionSearch.NONE);
    }

    /** A word as the number that the class tells. */
    static int word(String word) {
        int number = 0;
        for (int i = 0; i < word.length(); i++) {
            number = number * 27 + word.charAt(i) - 'a' + 1;
        }
        return number;
    }
}
