import java.nio.charset.StandardCharsets;
import java.util.Arrays;

/** What the tests have in common: texts go into a house, and its answers are compared. */
final class Check {
    static final int BAD = WireHouse.BAD, NO = WireHouse.NO, FULL = WireHouse.FULL;
    private static int wrong;
    final WireHouse house = new WireHouse();

    static void due(String what, long got, long want) {
        if (got != want) {
            wrong++;
            System.out.println(what + " answered " + got + ", due is " + want);
        }
    }

    static void due(String what, String got, String want) {
        if (!got.equals(want)) {
            wrong++;
            System.out.println(what + " is\n  " + got + "\ndue is\n  " + want);
        }
    }

    /** Ends the test, with exit code 1 if an answer was not the one that is due. */
    static void end() {
        if (wrong > 0) {
            System.out.println(wrong + " answers are not as due");
            System.exit(1);
        }
    }

    /** A fault is answered, and its place is told. */
    void fault(String what, int answer, int fault, int place) {
        due(what, answer, -10 - fault);
        due(what + ": place()", house.place(), place);
    }

    /** A text's characters, 0 to 255, come behind the tape. */
    void tape(String text) {
        byte[] bytes = text.getBytes(StandardCharsets.ISO_8859_1);
        byte[] full = Arrays.copyOf(bytes, (bytes.length + 19) / 20 * 20);
        for (int i = 0; i < full.length; i += 20) {
            int[] v = new int[5];
            for (int k = 0; k < 20; k++) {
                v[k / 4] = v[k / 4] << 8 | full[i + k] & 255;
            }
            house.feed(v[0], v[1], v[2], v[3], v[4]);
        }
        house.cut(full.length - bytes.length);
    }

    int schema(int s, String text) {
        tape(text);
        return house.schema(s);
    }

    int read(int s, int m, String text) {
        tape(text);
        return house.read(s, m);
    }

    int ask(int m, int row, String path) {
        tape(path);
        return house.ask(m, row);
    }

    int put(int m, String text) {
        tape(text);
        return house.put(m);
    }

    int remove(int m, String path) {
        tape(path);
        return house.remove(m);
    }

    /** A row's bytes as pairs of digits; what is no digit counts for nothing. */
    void load(int row, String hex) {
        String digits = hex.replaceAll("[^0-9a-f]", "");
        StringBuilder text = new StringBuilder();
        for (int i = 0; i < digits.length(); i += 2) {
            text.append((char) Integer.parseInt(digits.substring(i, i + 2), 16));
        }
        tape(text.toString());
        house.load(row);
    }

    /** Eight bytes of a word, the lowest first, as load() takes them. */
    static String word(long v) {
        StringBuilder hex = new StringBuilder();
        for (int i = 0; i < 8; i++) {
            hex.append(String.format("%02x", v >>> 8 * i & 255));
        }
        return hex.toString();
    }

    String hex(int row) {
        return hex(row, 0, house.size(row));
    }

    /** Bytes from .. to - 1 of a row, as pairs of digits. */
    String hex(int row, int from, int to) {
        StringBuilder hex = new StringBuilder();
        for (int i = from; i < to; i++) {
            hex.append(String.format("%02x", house.octet(row, i)));
        }
        return hex.toString();
    }

    String text(int row) {
        StringBuilder text = new StringBuilder();
        int n = house.size(row);
        for (int i = 0; i < n; i++) {
            text.append((char) house.octet(row, i));
        }
        return text.toString();
    }

    String printed(int m) {
        int n = house.print(m, 7);
        return n < 0 ? "print() answered " + n : text(7);
    }

    /** A message is PRINTED so; with few calls, as a house has 512: by rows 6 and 7, when the tape is empty. */
    void printed(String what, int m, String text) {
        if (house.print(m, 7) != text.length()) {
            due(what, printed(m), text);
        } else {
            row(what, 7, text);
        }
    }

    /** A row has these bytes. */
    void row(String what, int row, String text) {
        if (house.net(4) == 0) {
            tape(text);
            house.load(6);
            if (house.equal(row, 6) == 1) {
                return;
            }
        }
        due(what, text(row), text);
    }

    /** A row has these bytes, as pairs of digits. */
    void bytes(String what, int row, String hex) {
        if (house.net(4) == 0) {
            load(6, hex);
            if (house.equal(row, 6) == 1) {
                return;
            }
        }
        due(what, hex(row), hex);
    }

    static String times(String text, int n) {
        return text.repeat(n);
    }
}
