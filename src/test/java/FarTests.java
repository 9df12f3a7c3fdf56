import java.lang.reflect.InvocationTargetException;
import java.lang.reflect.Method;
import java.util.Arrays;

/** Every call of the face with numbers at, beside and far from each limit, beside the oracle. */
public final class FarTests {
    /** An object is used for at most 512 calls; the fullest city takes some 320 of them. */
    private static final int CALLS = 150;
    private static final int LEAST = Integer.MIN_VALUE;
    private static final int MOST = Integer.MAX_VALUE;
    private static final int[][] NUMBERS = {
        {},
        {LEAST, LEAST + 1, -2400, -25, -2, -1, 0, 1, 2, 3, 5, 6, 8, 9, 10, 11, 12, 13, 14, 15, 16, 17, 39, 40, 41, 98, 99,
            100, 101, 129, 130, 131, 199, 200, 201, 699, 700, 701, 2399, 2400, 1 << 16, 1 << 30, MOST - 1, MOST},
        {LEAST, -2, -1, 0, 1, 2, 5, 6, 9, 10, 15, 16, 23, 39, 40, 99, 100, 199, 200, 1023, 1024, 2399, 2400, MOST},
        {LEAST, -2, -1, 0, 1, 9, 10, 15, 16, 100, 101, 2399, 2400, MOST},
        {},
        {LEAST, -1, 0, 1, 2399, 2400, MOST},
    };
    private static final String SMALL = "houses 2;person 0;person 1 hired;walk 0 1 7;rule grief<5;ask grief;";

    private final int fullness;
    private TearsPost post = new TearsPost();
    private Oracle oracle = new Oracle();
    private int calls = 0;

    private FarTests(int fullness) {
        this.fullness = fullness;
    }

    public static void main(String[] args) throws ReflectiveOperationException {
        Method[] face = TearsPost.class.getDeclaredMethods();
        Arrays.sort(face, (a, b) -> a.getName().compareTo(b.getName()));
        for (int fullness = 0; fullness < 3; fullness++) {
            FarTests tests = new FarTests(fullness);
            for (Method method : face) {
                if (java.lang.reflect.Modifier.isPublic(method.getModifiers())) {
                    tests.startAnew();
                    tests.each(method, new int[method.getParameterCount()], 0);
                }
            }
        }
        Check.finish("FarTests");
    }

    private void startAnew() {
        post = new TearsPost();
        oracle = new Oracle();
        calls = 0;
        if (fullness == 1) {
            tell(SMALL);
            for (int hour = 3; hour < 60; hour += 11) {
                weep(hour & 1, hour, hour % 10);
            }
            post.letter(1, 14);
            oracle.letter(1, 14);
        } else if (fullness == 2) {
            tell("houses 10;" + "person 1;person 9 hired;".repeat(8) + "rule 1;".repeat(4)
                    + "ask house<5;ask house<2;ask house<7;ask house/2*2=house;ask grief<5;ask before;");
            fillRows();
        }
    }

    private void tell(String text) {
        Check.feed(post, text);
        for (int i = 0; i < text.length(); i += 20) {
            int[] five = new int[5];
            for (int j = 0; j < 20; j++) {
                five[j / 4] = five[j / 4] << 8 | (i + j < text.length() ? text.charAt(i + j) : ' ');
            }
            oracle.feed(five);
        }
        Check.same("a city for both", oracle.city(text.length()), post.city(text.length()));
    }

    private void weep(int person, int hour, int grief) {
        Check.same("tears for both", oracle.weep(person, hour, grief), post.weep(person, hour, grief));
    }

    private void fillRows() {
        for (int told = 0; told < 200; told++) {
            weep(told * 7 % 16, told * 12, told % 10);
        }
        for (int i = 0; i < 40; i++) {
            Check.same("a letter for both", oracle.letter(i % 16, i * 60), post.letter(i % 16, i * 60));
            Check.same("the register for both", oracle.write(i * 3 % 16), post.write(i * 3 % 16));
        }
        oracle.image();
        post.image();
    }

    /** All rows of numbers from a place on. */
    private void each(Method method, int[] with, int place) throws ReflectiveOperationException {
        if (place == with.length) {
            same(method, with);
            return;
        }
        for (int number : NUMBERS[with.length]) {
            with[place] = number;
            each(method, with, place + 1);
        }
    }

    private void same(Method method, int[] with) throws ReflectiveOperationException {
        if (calls == CALLS) {
            startAnew();
        }
        calls++;
        Object[] numbers = Arrays.stream(with).boxed().toArray();
        boolean feeds = method.getName().equals("feed");
        Method like = Oracle.class.getDeclaredMethod(method.getName(),
                feeds ? new Class<?>[] {int[].class} : method.getParameterTypes());
        String due = answer(like, oracle, feeds ? new Object[] {with.clone()} : numbers);
        Check.sameText(method.getName() + Arrays.toString(with), due, answer(method, post, numbers));
    }

    private static String answer(Method method, Object of, Object[] with) throws ReflectiveOperationException {
        try {
            return String.valueOf(method.invoke(of, with));
        } catch (InvocationTargetException e) {
            return e.getCause().getClass().getSimpleName();
        }
    }
}
