import java.nio.charset.StandardCharsets;

/** Counts answers that are not as due, and lays texts of mazes on a tape. */
final class Checker {
    private int wrong = 0;
    private int asked = 0;
    private String about = "";

    void about(String what) {
        about = what;
    }

    void due(String call, long got, long want) {
        asked++;
        if (got != want) {
            wrong++;
            if (wrong <= 50) {
                System.out.println(about + ": " + call + " answered " + got + ", due is " + want);
            }
        }
    }

    void holds(String what, boolean isSo) {
        due(what, isSo ? 1 : 0, 1);
    }

    void finish(String name) {
        System.out.println(name + ": " + asked + " answers, " + wrong + " of them wrong");
        if (wrong != 0 || asked == 0) {
            System.exit(1);
        }
    }

    /** Puts a text behind the tape and nothing else: what feed pads, end takes away again. */
    static int lay(HedgeMaze x, String text) {
        return lay(x, text.getBytes(StandardCharsets.ISO_8859_1));
    }

    static int lay(HedgeMaze x, byte[] text) {
        int before = x.count(7);
        for (int start = 0; start < text.length; start += 20) {
            int[] five = new int[5];
            for (int i = 0; i < 20; i++) {
                int sign = start + i < text.length ? text[start + i] & 255 : 32;
                five[i / 4] = five[i / 4] << 8 | sign;
            }
            if (x.feed(five[0], five[1], five[2], five[3], five[4]) < 0) {
                return HedgeMaze.NONE;
            }
        }
        return x.end(before + text.length);
    }

    static HedgeMaze told(String text) {
        HedgeMaze x = new HedgeMaze();
        lay(x, text);
        int lines = x.maze();
        if (lines < 1) {
            throw new IllegalStateException(
                "a test's own maze has fault " + x.fault(0) + " at " + x.fault(1) + ": " + text);
        }
        return x;
    }

    /** A slot has a row of these numbers. */
    static void fill(HedgeMaze x, int slot, int width, long... numbers) {
        x.row(slot, width, numbers.length);
        for (int i = 0; i < numbers.length; i++) {
            x.write(slot, i, numbers[i]);
        }
    }
}
