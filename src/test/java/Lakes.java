import java.nio.charset.StandardCharsets;

/** Puts texts and bytes on the tape of an InkLake. */
final class Lakes {
    /** A SHORE with two of each, without rules. */
    static final String PLAIN = "lake has 100 black 250 holds 150;"
            + "brook rill gives 20 black 7;brook ouse gives 15 black 2;"
            + "village nib miles 2;village quill miles 10;"
            + "deed will of nib needs 30 worth 5 by 4;deed law of quill needs 50 worth 9 by 2;";

    private Lakes() {
    }

    static void put(InkLake x, byte[] bytes) {
        int[] numbers = new int[5];
        int padded = (bytes.length + 19) / 20 * 20;
        for (int at = 0; at < padded; at += 20) {
            for (int k = 0; k < 5; k++) {
                numbers[k] = 0;
                for (int j = 0; j < 4; j++) {
                    int from = at + 4 * k + j;
                    numbers[k] = numbers[k] << 8 | (from < bytes.length ? bytes[from] & 255 : ' ');
                }
            }
            x.feed(numbers[0], numbers[1], numbers[2], numbers[3], numbers[4]);
        }
        x.end(bytes.length);
    }

    static void put(InkLake x, String text) {
        put(x, text.getBytes(StandardCharsets.ISO_8859_1));
    }

    static void put(InkLake x, int... octets) {
        byte[] bytes = new byte[octets.length];
        for (int k = 0; k < octets.length; k++) {
            bytes[k] = (byte) octets[k];
        }
        put(x, bytes);
    }

    static int shore(InkLake x, String text) {
        put(x, text);
        return x.shore();
    }

    static long ask(InkLake x, String text) {
        put(x, text);
        return x.ask();
    }

    /** A new object with that SHORE, which has to be one. */
    static InkLake of(String text) {
        InkLake x = new InkLake();
        if (shore(x, text) < 0) {
            Check.eq("fault " + x.fault(0) + " at " + x.fault(1) + " in: " + text, 1, 0);
        }
        return x;
    }

    static int outflows(InkLake x, int... levels) {
        int[] octets = new int[2 * levels.length];
        for (int k = 0; k < levels.length; k++) {
            octets[2 * k] = levels[k] >> 8;
            octets[2 * k + 1] = levels[k] & 255;
        }
        put(x, octets);
        return x.outflows();
    }

    /** The bytes of an image of SEASON, BUCKETS, GRAINS and the DEEDS' bytes, with its last byte. */
    static int[] image(int season, int buckets, int grains, int... deeds) {
        int[] octets = new int[7 + deeds.length];
        octets[0] = season >> 8;
        octets[1] = season & 255;
        octets[2] = buckets >> 8;
        octets[3] = buckets & 255;
        octets[4] = grains >> 8;
        octets[5] = grains & 255;
        System.arraycopy(deeds, 0, octets, 6, deeds.length);
        int c = 31;
        for (int k = 0; k < octets.length - 1; k++) {
            c = (3 * c + octets[k]) % 251;
        }
        octets[octets.length - 1] = c;
        return octets;
    }

    static boolean on(InkLake x, int... octets) {
        put(x, octets);
        return x.on();
    }
}
