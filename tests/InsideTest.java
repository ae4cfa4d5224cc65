import java.lang.reflect.Field;
import java.util.List;

/**
 * What calls alone can't bring about in 512 of them: the end of time, and a house that is not sound. The
 * test reaches into the object for it, so that it goes with the names of the fields inside.
 */
public final class InsideTest {
    private static int wrong = 0;

    private interface Harm {
        void go(Burrowline x) throws ReflectiveOperationException;
    }

    private static void check(String what, boolean isSo) {
        if (!isSo) {
            wrong++;
            System.out.println("not so: " + what);
        }
    }

    private static Field field(Object of, String name) throws ReflectiveOperationException {
        Field field = of.getClass().getDeclaredField(name);
        field.setAccessible(true);
        return field;
    }

    private static Object get(Object of, String name) throws ReflectiveOperationException {
        return field(of, name).get(of);
    }

    private static void set(Object of, String name, Object value) throws ReflectiveOperationException {
        field(of, name).set(of, value);
    }

    private static Object link(Burrowline x, int end, int peer) throws ReflectiveOperationException {
        return ((Object[]) get(((Object[]) get(x, "ends"))[end], "links"))[peer];
    }

    private static Object current(Burrowline x, int end, int peer) throws ReflectiveOperationException {
        return get(link(x, end, peer), "current");
    }

    private static Object letter(Burrowline x, int place) throws ReflectiveOperationException {
        return ((List<?>) get(x, "net")).get(place);
    }

    private static void harm(String what, boolean isSoundStill, Harm harm) throws ReflectiveOperationException {
        Burrowline x = new Burrowline();
        for (int end = 0; end < 3; end++) {
            x.greet(end, (end + 1) % 3);
            x.deliver(0);
            x.deliver(0);
            x.deliver(0);
        }
        x.greet(0, 1);
        x.deliver(0);
        x.keep(0, 2);
        check("sound before " + what, x.isSound());
        harm.go(x);
        check((isSoundStill ? "sound" : "not sound") + " after " + what, x.isSound() == isSoundStill);
    }

    private static void unsoundSessions() throws ReflectiveOperationException {
        harm("another sending key", false, x -> set(current(x, 0, 1), "sending", 0));
        harm("another receiving key", false, x -> set(current(x, 2, 0), "receiving", 0));
        harm("both began", false, x -> set(current(x, 1, 0), "began", true));
        harm("none began", false, x -> set(current(x, 1, 2), "began", false));
        harm("other keys, but of no pair", true, x -> {
            set(current(x, 1, 0), "other", 99);
            set(current(x, 1, 0), "sending", 0);
            set(current(x, 1, 0), "began", true);
        });
        harm("an index twice", false, x -> set(current(x, 2, 0), "index", x.session(0, 1, 1, 0)));
        harm("an index twice, of a next one", false, x -> set(current(x, 2, 0), "index", x.session(1, 0, 2, 0)));
        harm("40 sealed", true, x -> set(current(x, 0, 1), "sealed", 40));
        harm("41 sealed", false, x -> set(current(x, 0, 1), "sealed", 41));
        harm("a counter twice", false, x -> set(current(x, 1, 0), "took", 2));
        harm("a counter above the greatest", false, x -> {
            set(current(x, 1, 0), "taken", 3L);
            set(current(x, 1, 0), "took", 2);
        });
        harm("the greatest counter", true, x -> {
            set(current(x, 1, 0), "taken", 3L);
            set(current(x, 1, 0), "took", 2);
            set(current(x, 1, 0), "greatest", 1);
        });
        harm("a counter, but none the greatest", false, x -> set(current(x, 1, 0), "greatest", -1));
    }

    private static void unsoundLetters() throws ReflectiveOperationException {
        for (int place = 0; place < 2; place++) {
            int asked = place;
            harm("a letter that only seems turned", false, x -> {
                set(letter(x, asked), "turnedField", 3);
                set(letter(x, asked), "original", -77);
            });
            harm("a letter turned for good", true, x -> x.turn(asked, 3, 5));
        }
        harm("a double that only seems turned", false, x -> {
            x.twice(1);
            set(letter(x, 2), "turnedField", 3);
            set(letter(x, 2), "original", -77);
        });
    }

    private static void endOfTime() throws ReflectiveOperationException {
        Burrowline x = new Burrowline();
        set(x, "time", 499999940);
        check("pass to the end of time", x.pass(60) == 500000000);
        for (int ticks : new int[] {1, 60, 0, 61}) {
            String want = ticks == 1 || ticks == 60 ? "IllegalStateException" : "IllegalArgumentException";
            String got = "nothing";
            try {
                x.pass(ticks);
            } catch (RuntimeException e) {
                got = e.getClass().getSimpleName();
            }
            check("pass(" + ticks + ") at the end of time throws " + got, got.equals(want));
        }
        check("now is as it was", x.now() == 500000000);
        x.greet(0, 1);
        check("a stamp at the end of time", x.stamp(0, 1, true) == 2000000000);
        for (int i = 1; i <= 20; i++) {
            check("a turned stamp", x.turn(0, 3, 500) == 2000000000 + 500 * i);
        }
        check("is bad", x.deliver(0) == -2);
    }

    public static void main(String[] args) throws ReflectiveOperationException {
        unsoundSessions();
        unsoundLetters();
        endOfTime();
        if (wrong > 0) {
            System.exit(1);
        }
    }
}
