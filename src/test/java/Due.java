import java.nio.charset.StandardCharsets;

/** What tests share: answers that are held against what is due, and texts that are fed by eights. */
final class Due {
    private static int wrong = 0;

    private Due() { }

    static void is(String call, long got, long want) {
        if (got == want) return;
        wrong++;
        System.out.println(call + " answered " + got + ", due is " + want);
    }

    static void end() {
        if (wrong == 0) return;
        System.out.println(wrong + " answers are not as due");
        System.exit(1);
    }

    static void feed(SleptMatters x, String text) {
        byte[] bytes = text.getBytes(StandardCharsets.ISO_8859_1);
        for (int at = 0; at < bytes.length; at += 8) {
            int n = Math.min(8, bytes.length - at);
            x.feed(n, packed(bytes, at, n));
        }
    }

    static long packed(byte[] bytes, int at, int n) {
        long packed = 0;
        for (int i = 0; i < n; i++) packed = packed << 8 | bytes[at + i] & 255;
        return packed;
    }

    static int town(SleptMatters x, String text) {
        feed(x, text);
        return x.town();
    }

    static int laws(SleptMatters x, String text) {
        feed(x, text);
        return x.laws();
    }

    /** A new object with a town and laws that have no fault. */
    static SleptMatters with(String town, String laws) {
        SleptMatters x = new SleptMatters();
        if (town(x, town) < 0) is("town of " + town, x.fault(), SleptMatters.NONE);
        if (laws(x, laws) < 0) is("laws of " + laws, x.fault(), SleptMatters.NONE);
        return x;
    }

    static String times(int n, String part) {
        return part.repeat(n);
    }
}
