import java.nio.charset.StandardCharsets;

/** What the tests share: answers compared with those that are due, and texts fed to an object. */
final class Check {
    private int wrong;
    private String part = "";

    void part(String name) {
        part = name;
    }

    void due(String call, long want, long got) {
        if (want != got) {
            wrong++;
            System.out.println(part + ": " + call + " answered " + got + ", due is " + want);
        }
    }

    void due(String call, boolean want, boolean got) {
        due(call, want ? 1 : 0, got ? 1 : 0);
    }

    void end() {
        System.out.println(wrong == 0 ? "all answers are as due" : wrong + " answers are not as due");
        if (wrong != 0) {
            System.exit(1);
        }
    }

    /** Feeds twenty bytes at a time; what is too many of the last twenty goes back. */
    static void feed(RowChildren x, String text) {
        byte[] bytes = text.getBytes(StandardCharsets.ISO_8859_1);
        for (int from = 0; from < bytes.length; from += 20) {
            int[] words = words(bytes, from);
            x.feed(words[0], words[1], words[2], words[3], words[4]);
        }
        x.back((20 - bytes.length % 20) % 20);
    }

    static int[] words(byte[] bytes, int from) {
        int[] words = new int[5];
        for (int i = 0; i < 20; i++) {
            int sign = from + i < bytes.length ? bytes[from + i] & 255 : 32;
            words[i / 4] = words[i / 4] << 8 | sign;
        }
        return words;
    }

    static int read(RowChildren x, String text) {
        feed(x, text);
        return x.read();
    }

    static RowChildren of(String text) {
        RowChildren x = new RowChildren();
        if (read(x, text) != 0) {
            throw new IllegalArgumentException("a test's text has a fault: " + text);
        }
        return x;
    }
}
