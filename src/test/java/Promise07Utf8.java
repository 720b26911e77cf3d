import java.nio.ByteBuffer;
import java.nio.charset.CharacterCodingException;
import java.nio.charset.StandardCharsets;

/** Promise 7: which bytes a text may have, compared with what Java's own reader of UTF-8 takes. */
public final class Promise07Utf8 {
    private static final String[] BEHIND = {"", "80", "8080", "bfbf", "80bf41", "4180", "c3", "7f80", "807f", "c080", "80c0", "bf7f", "bfc0"};
    private static Check c;
    private static int tried;

    public static void main(String[] args) {
        for (int a = 120; a < 256; a++) {
            for (int b = 0; b < 256; b += b >= 117 && b < 200 ? 1 : 13) {
                for (String behind : BEHIND) {
                    one(String.format("%02x%02x", a, b) + behind);
                }
            }
        }
        Check.end();
    }

    /** A house has 512 calls. */
    private static void one(String hex) {
        if (tried++ % 100 == 0) {
            c = new Check();
            c.schema(0, "record R { text t @ 1; }");
        }
        StringBuilder items = new StringBuilder();
        byte[] bytes = new byte[hex.length() / 2];
        for (int i = 0; i < bytes.length; i++) {
            String two = hex.substring(2 * i, 2 * i + 2);
            items.append("\\x").append(two);
            bytes[i] = (byte) Integer.parseInt(two, 16);
        }
        int answer = c.read(0, 0, "R {t: \"" + items + "\"}");
        Check.due("a text of " + hex, answer, isUtf8(bytes) ? 1 : -17);
    }

    private static boolean isUtf8(byte[] bytes) {
        try {
            StandardCharsets.UTF_8.newDecoder().decode(ByteBuffer.wrap(bytes));
            return true;
        } catch (CharacterCodingException e) {
            return false;
        }
    }
}
