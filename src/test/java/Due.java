import java.nio.charset.StandardCharsets;

/** What the tests have in common: to feed a text, and to tell an answer that is not due. */
final class Due {
    private static int wrong = 0;

    private Due() {
    }

    static void is(String call, long got, long want) {
        if (got != want) {
            wrong++;
            System.out.println(call + " answered " + got + ", due is " + want);
        }
    }

    static void is(String call, boolean got, boolean want) {
        is(call, got ? 1 : 0, want ? 1 : 0);
    }

    static void isRow(String call, int[] got, int... want) {
        is(call + ": length", got.length, want.length);
        for (int i = 0; i < Math.min(got.length, want.length); i++) {
            is(call + "[" + i + "]", got[i], want[i]);
        }
    }

    static void finish(String name) {
        System.out.println(name + (wrong == 0 ? ": all answers are as due" : ": " + wrong + " answers are not as due"));
        if (wrong != 0) {
            System.exit(1);
        }
    }

    static int wrong() {
        return wrong;
    }

    /** Puts a text on the empty tape; its last feed is filled with blanks and cut off again. */
    static void tape(VersionSearch x, String text) {
        byte[] bytes = text.getBytes(StandardCharsets.ISO_8859_1);
        int fed = 0;
        for (int at = 0; at < bytes.length; at += 20) {
            int[] five = new int[5];
            for (int i = 0; i < 20; i++) {
                int next = at + i < bytes.length ? bytes[at + i] & 255 : 32;
                five[i / 4] = five[i / 4] << 8 | next;
            }
            fed = x.feed(five[0], five[1], five[2], five[3], five[4]);
        }
        if (fed != 0) {
            x.end(bytes.length);
        }
    }

    static int text(VersionSearch x, int sort, int at, String text) {
        tape(x, text);
        return x.text(sort, at);
    }

    /** A word as the number that the class tells. */
    static int word(String word) {
        int number = 0;
        for (int i = 0; i < word.length(); i++) {
            number = number * 27 + word.charAt(i) - 'a' + 1;
        }
        return number;
    }
}
