import java.nio.charset.StandardCharsets;

/** What the tests share: answers that are due, and texts and bytes put on the tape. */
final class Check {
    private static int asked = 0;
    private static int wrong = 0;

    private Check() {
    }

    static void due(String call, long got, long want) {
        asked++;
        if (got != want) {
            wrong++;
            System.out.println(call + " answered " + got + ", due is " + want);
        }
    }

    static void due(String call, boolean got, boolean want) {
        due(call, got ? 1 : 0, want ? 1 : 0);
    }

    static boolean isGood() {
        return wrong == 0;
    }

    static void close() {
        System.out.println(asked + " answers, " + wrong + " not as due");
        if (wrong != 0) {
            System.exit(1);
        }
    }

    static byte[] bytes(int... numbers) {
        byte[] bytes = new byte[numbers.length];
        for (int k = 0; k < numbers.length; k++) {
            bytes[k] = (byte) numbers[k];
        }
        return bytes;
    }

    static byte[] text(String text) {
        return text.getBytes(StandardCharsets.ISO_8859_1);
    }

    /** The numbers with which feed() brings these bytes, filled up with blanks. */
    static int[][] feeds(byte[] bytes) {
        int calls = (bytes.length + 19) / 20;
        int[][] feeds = new int[calls][5];
        for (int k = 0; k < 20 * calls; k++) {
            int octet = k < bytes.length ? bytes[k] & 255 : 32;
            feeds[k / 20][k % 20 / 4] |= octet << (24 - 8 * (k % 4));
        }
        return feeds;
    }

    static void put(PalmHours x, byte[] bytes) {
        x.end(0);
        for (int[] row : feeds(bytes)) {
            x.feed(row[0], row[1], row[2], row[3], row[4]);
        }
        x.end(bytes.length);
    }

    static int town(PalmHours x, String text) {
        put(x, text(text));
        return x.town();
    }

    static PalmHours made(String text) {
        PalmHours x = new PalmHours();
        if (town(x, text) < 0) {
            due("town " + text, x.fault(0) * 10000 + x.fault(1), 0);
        }
        return x;
    }
}
