import java.nio.charset.StandardCharsets;
import java.util.NoSuchElementException;

/** What the tests share: texts told to a city, and answers compared with those that are due. */
final class Check {
    private static int right = 0;
    private static int wrong = 0;

    interface Call {
        long answer();
    }

    private Check() {
    }

    static void same(String what, long due, long got) {
        if (due == got) {
            right++;
            return;
        }
        wrong++;
        System.out.println(what + " answered " + got + ", due is " + due);
    }

    static void noSuch(String what, Call call) {
        thrown(what, NoSuchElementException.class, call);
    }

    static void illegal(String what, Call call) {
        thrown(what, IllegalArgumentException.class, call);
    }

    private static void thrown(String what, Class<?> due, Call call) {
        String got;
        try {
            got = String.valueOf(call.answer());
        } catch (RuntimeException e) {
            if (e.getClass() == due) {
                right++;
                return;
            }
            got = e.toString();
        }
        wrong++;
        System.out.println(what + " answered " + got + ", due is " + due.getSimpleName());
    }

    /** A fresh object whose city is the text, which must have no fault. */
    static TearsPost city(String text) {
        TearsPost post = new TearsPost();
        same("the fault of '" + text + "'", 0, tell(post, text));
        return post;
    }

    /** The text behind an empty tape, as a city. */
    static int tell(TearsPost post, String text) {
        feed(post, text);
        return post.city(text.length());
    }

    static void feed(TearsPost post, String text) {
        byte[] bytes = text.getBytes(StandardCharsets.ISO_8859_1);
        for (int i = 0; i < bytes.length; i += 20) {
            int[] five = new int[5];
            for (int j = 0; j < 20; j++) {
                int sign = i + j < bytes.length ? bytes[i + j] & 255 : ' ';
                five[j / 4] = five[j / 4] << 8 | sign;
            }
            post.feed(five[0], five[1], five[2], five[3], five[4]);
        }
    }

    static void finish(String name) {
        System.out.println(name + ": " + right + " answers as due, " + wrong + " not");
        if (wrong != 0 || right == 0) {
            System.exit(1);
        }
    }
}
