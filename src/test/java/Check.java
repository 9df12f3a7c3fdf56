import java.io.IOException;
import java.io.UncheckedIOException;
import java.nio.charset.StandardCharsets;
import java.nio.file.Files;
import java.nio.file.Path;
import java.util.NoSuchElementException;

/** What the tests share: texts told to a city, and answers compared with those that are due. */
final class Check {
    private static final Path DOCUMENT = Path.of("../shared/DOC.md");

    private static int right = 0;
    private static int wrong = 0;
    private static int sentences = 0;
    private static String document = null;
    private static String sentence = "";

    interface Call {
        long answer();
    }

    interface CallOf {
        long answer(int number);
    }

    private Check() {
    }

    /** By which promise's words the answers from here on are due; they must stand in the document. */
    static void promise(int promise, String words) {
        sentence = "promise " + promise + ", '" + words + "': ";
        sentences++;
        same("whether the document says so", 1, document().contains(words) ? 1 : 0);
        same("whether there is such a promise", 1, document().contains("## Promise " + promise + ":") ? 1 : 0);
    }

    private static String document() {
        if (document == null) {
            try {
                document = Files.readString(DOCUMENT);
            } catch (IOException e) {
                throw new UncheckedIOException(e);
            }
        }
        return document;
    }

    static void same(String what, long due, long got) {
        tell(due == got, what, String.valueOf(due), String.valueOf(got));
    }

    static void sameText(String what, String due, String got) {
        tell(due.equals(got), what, due, got);
    }

    private static void tell(boolean is, String what, String due, String got) {
        if (is) {
            right++;
            return;
        }
        wrong++;
        System.out.println(sentence + what + " answered " + got + ", due is " + due);
    }

    static void noSuch(String what, Call call) {
        thrown(what, NoSuchElementException.class, call);
    }

    static void illegal(String what, Call call) {
        thrown(what, IllegalArgumentException.class, call);
    }

    private static void thrown(String what, Class<?> due, Call call) {
        sameText(what, due.getSimpleName(), answer(call));
    }

    /** The answer as a text, or the simple name of what the call throws. */
    static String answer(Call call) {
        try {
            return String.valueOf(call.answer());
        } catch (RuntimeException e) {
            return e.getClass().getSimpleName();
        }
    }

    /** The call takes the numbers from the least to the most; it throws at those beside them. */
    static void noSuchBeside(String what, int least, int most, CallOf call) {
        beside(what, least, most, NoSuchElementException.class, call);
    }

    static void illegalBeside(String what, int least, int most, CallOf call) {
        beside(what, least, most, IllegalArgumentException.class, call);
    }

    private static void beside(String what, int least, int most, Class<?> due, CallOf call) {
        for (int number : new int[] {least, most}) {
            String got = answer(() -> call.answer(number));
            same(what + " of " + number + " throws " + got, 0, got.endsWith("Exception") ? 1 : 0);
        }
        for (int number : new int[] {least - 1, most + 1, Integer.MIN_VALUE, Integer.MAX_VALUE}) {
            thrown(what + " of " + number, due, () -> call.answer(number));
        }
    }

    /** All that an object tells of itself, but STATUS; it should be a small city. */
    static String state(TearsPost post) {
        StringBuilder state = new StringBuilder("fault " + post.fault() + ", counts");
        for (int what = 0; what <= 8; what++) {
            state.append(' ').append(post.count(what));
        }
        rows(state, "people", post.count(1), 3, post::person);
        rows(state, "walks", post.count(0), post.count(0), post::walk);
        rows(state, "tears", post.count(4), 6, post::tears);
        rows(state, "letters", post.count(5), 6, post::post);
        rows(state, "asks", post.count(3), post.count(0), (ask, house) -> post.holds(ask, house) ? 1 : 0);
        rows(state, "register", 3, 3, post::register);
        rows(state, "names", post.count(0), 1, (house, none) -> post.name(house, post.count(8)));
        state.append(", round");
        for (int i = 0; i <= post.count(0); i++) {
            int place = i;
            state.append(' ').append(answer(() -> post.rounded(place)));
        }
        return state.toString();
    }

    private interface CallOfTwo {
        long answer(int number, int other);
    }

    private static void rows(StringBuilder state, String of, int many, int wide, CallOfTwo call) {
        state.append(", ").append(of);
        for (int i = 0; i < many; i++) {
            state.append(i == 0 ? " " : "; ");
            for (int j = 0; j < wide; j++) {
                state.append(j == 0 ? "" : " ").append(call.answer(i, j));
            }
        }
    }

    static String status(TearsPost post) {
        return post.count(9) + " " + post.count(10) + " " + post.count(11) + " " + post.count(12);
    }

    /** The call is refused with NONE: it is counted in that STATUS alone, and all else stays. */
    static void refused(String what, TearsPost post, int status, Call call) {
        String state = state(post);
        StringBuilder due = new StringBuilder();
        for (int i = 0; i < 4; i++) {
            due.append(i == 0 ? "" : " ").append(post.count(9 + i) + (i == status ? 1 : 0));
        }
        sameText(what, "-1", answer(call));
        sameText("STATUS behind " + what, due.toString(), status(post));
        sameText("all else behind " + what, state, state(post));
    }

    /** The call throws, and nothing changes, STATUS neither. */
    static void noSuchAndStays(String what, TearsPost post, Call call) {
        thrownAndStays(what, post, NoSuchElementException.class, call);
    }

    static void illegalAndStays(String what, TearsPost post, Call call) {
        thrownAndStays(what, post, IllegalArgumentException.class, call);
    }

    private static void thrownAndStays(String what, TearsPost post, Class<?> due, Call call) {
        String state = state(post);
        String status = status(post);
        thrown(what, due, call);
        sameText("STATUS behind " + what, status, status(post));
        sameText("all else behind " + what, state, state(post));
    }

    /** A fresh object whose city is the text, which must have no fault. */
    static TearsPost city(String text) {
        TearsPost post = new TearsPost();
        same("the fault of '" + text + "'", 0, tell(post, text));
        return post;
    }

    /** The text behind an empty tape, as a city. */
    static int tell(TearsPost post, String text) {
        feed(post, text);
        return post.city(text.length());
    }

    static void feed(TearsPost post, String text) {
        byte[] bytes = text.getBytes(StandardCharsets.ISO_8859_1);
        for (int i = 0; i < bytes.length; i += 20) {
            int[] five = new int[5];
            for (int j = 0; j < 20; j++) {
                int sign = i + j < bytes.length ? bytes[i + j] & 255 : ' ';
                five[j / 4] = five[j / 4] << 8 | sign;
            }
            post.feed(five[0], five[1], five[2], five[3], five[4]);
        }
    }

    /** A text without a FAULT. */
    static void fine(String text) {
        TearsPost post = new TearsPost();
        same("city '" + text + "'", 0, tell(post, text));
        same("fault() of '" + text + "'", -1, post.fault());
        same("STATUS of '" + text + "'", 0, post.count(9));
    }

    /** A text with a FAULT at a place. */
    static void fault(String text, int fault, int place) {
        TearsPost post = new TearsPost();
        same("city '" + text + "'", fault, tell(post, text));
        same("fault() of '" + text + "'", place, post.fault());
        same("STATUS of '" + text + "'", 1, post.count(9));
    }

    /** An EXPR that holds, both as a RULE and as an ASK. */
    static void holds(String expr, int due) {
        TearsPost post = city("person 0;rule " + expr + ";ask " + expr + ";");
        post.weep(0, 0, 0);
        same("rule " + expr, due, post.tears(0, 5));
        same("ask " + expr, due, post.holds(0, 0) ? 1 : 0);
    }

    static void finish(String name) {
        String bounds = sentences == 0 ? "" : " of " + sentences + " sentences";
        System.out.println(name + bounds + ": " + right + " answers as due, " + wrong + " not");
        if (wrong != 0 || right == 0) {
            System.exit(1);
        }
    }
}
