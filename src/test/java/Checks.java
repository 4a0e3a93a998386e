import java.nio.ByteBuffer;
import java.nio.charset.StandardCharsets;
import java.util.Arrays;

/** What all tests need: an answer held against the one that is due, and a text fed. */
final class Checks {
    private static int right = 0;
    private static int wrong = 0;

    private Checks() {
    }

    static void due(String call, long want, long got) {
        if (got == want) {
            right++;
            return;
        }
        wrong++;
        System.out.println(call + " answered " + got + ", due is " + want);
    }

    static void due(String call, boolean want, boolean got) {
        due(call, want ? 1 : 0, got ? 1 : 0);
    }

    static int wrong() {
        return wrong;
    }

    /** Twenty bytes a time; what was fed too much goes back. */
    static void type(HeadCloths x, String text) {
        for (int[] words : words(text)) {
            x.feed(words[0], words[1], words[2], words[3], words[4]);
        }
        x.back(padding(text));
    }

    static int padding(String text) {
        return Math.floorMod(-text.length(), 20);
    }

    static int[][] words(String text) {
        byte[] bytes = Arrays.copyOf(text.getBytes(StandardCharsets.ISO_8859_1), text.length() + padding(text));
        ByteBuffer in = ByteBuffer.wrap(bytes);
        int[][] rows = new int[bytes.length / 20][5];
        for (int[] row : rows) {
            for (int i = 0; i < 5; i++) {
                row[i] = in.getInt();
            }
        }
        return rows;
    }

    static HeadCloths of(String text) {
        HeadCloths x = new HeadCloths();
        type(x, text);
        due("read() of " + text, 0, x.read());
        return x;
    }

    static void end(String name) {
        System.out.println(name + ": " + right + " answers as due, " + wrong + " not");
        if (wrong > 0) {
            System.exit(1);
        }
    }
}
