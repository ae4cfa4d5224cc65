import java.lang.reflect.Field;
import java.util.List;

/**
 * What calls alone can't bring about in 512 of them: the end of time, and a house that is not sound. The
 * test reaches into the object for it, so that it goes with the names of the fields inside.
 */
public final class InsideTest extends Checks {
    private interface Harm {
        void go(Burrowline x) throws ReflectiveOperationException;
    }

    private static Field field(Object of, String name) throws ReflectiveOperationException {
        Field field = of.getClass().getDeclaredField(name);
        field.setAccessible(true);
        return field;
    }

    private static Object get(Object of, String name) throws ReflectiveOperationException {
        return field(of, name).get(of);
    }

    private static void set(Object of, String name, Object value) throws ReflectiveOperationException {
        field(of, name).set(of, value);
    }

    private static Object link(Burrowline x, int end, int peer) throws ReflectiveOperationException {
        return ((Object[]) get(((Object[]) get(x, "ends"))[end], "links"))[peer];
    }

    private static Object current(Burrowline x, int end, int peer) throws ReflectiveOperationException {
        return get(link(x, end, peer), "current");
    }

    private static Object letter(Burrowline x, int place) throws ReflectiveOperationException {
        return ((List<?>) get(x, "net")).get(place);
    }

    private static void harm(String what, boolean isSoundStill, Harm harm) throws ReflectiveOperationException {
        Burrowline x = new Burrowline();
        for (int end = 0; end < 3; end++) {
            x.greet(end, (end + 1) % 3);
            x.deliver(0);
            x.deliver(0);
            x.deliver(0);
        }
        x.greet(0, 1);
        x.deliver(0);
        x.keep(0, 2);
        is("sound before " + what, x.isSound());
        harm.go(x);
        is((isSoundStill ? "sound" : "not sound") + " after " + what, x.isSound() == isSoundStill);
    }

    private static void unsoundSessions() throws ReflectiveOperationException {
        harm("another sending key", false, x -> set(current(x, 0, 1), "sending", 0));
        harm("another receiving key", false, x -> set(current(x, 2, 0), "receiving", 0));
        harm("both began", false, x -> set(current(x, 1, 0), "began", true));
        harm("none began", false, x -> set(current(x, 1, 2), "began", false));
        harm("other keys, but of no pair", true, x -> {
            set(current(x, 1, 0), "other", 99);
            set(current(x, 1, 0), "sending", 0);
            set(current(x, 1, 0), "began", true);
        });
        harm("an index twice", false, x -> set(current(x, 2, 0), "index", x.session(0, 1, 1, 0)));
        harm("an index twice, of a next one", false, x -> set(current(x, 2, 0), "index", x.session(1, 0, 2, 0)));
        harm("40 sealed", true, x -> set(current(x, 0, 1), "sealed", 40));
        harm("41 sealed", false, x -> set(current(x, 0, 1), "sealed", 41));
        harm("a counter twice", false, x -> set(current(x, 1, 0), "took", 2));
        harm("a counter above the greatest", false, x -> {
            set(current(x, 1, 0), "taken", 3L);
            set(current(x, 1, 0), "took", 2);
        });
        harm("the greatest counter", true, x -> {
            set(current(x, 1, 0), "taken", 3L);
            set(current(x, 1, 0), "took", 2);
            set(current(x, 1, 0), "greatest", 1);
        });
        harm("a counter, but none the greatest", false, x -> set(current(x, 1, 0), "greatest", -1));
    }

    private static void unsoundLetters() throws ReflectiveOperationException {
        for (int place = 0; place < 2; place++) {
            int asked = place;
            harm("a letter that only seems turned", false, x -> {
                set(letter(x, asked), "turnedField", 3);
                set(letter(x, asked), "original", -77);
            });
            harm("a letter turned for good", true, x -> x.turn(asked, 3, 5));
        }
        harm("a double that only seems turned", false, x -> {
            x.twice(1);
            set(letter(x, 2), "turnedField", 3);
            set(letter(x, 2), "original", -77);
        });
    }

    private static Burrowline at(int time) throws ReflectiveOperationException {
        Burrowline x = met();
        set(x, "time", time);
        return x;
    }

    private static void endOfTime() throws ReflectiveOperationException {
        same("pass(60) to the end of time", at(499999940).pass(60), 500000000);
        same("pass(1) to the end of time", at(499999999).pass(1), 500000000);
        for (int ticks : new int[] {1, 60}) {
            Burrowline x = at(500000001 - ticks);
            noState("pass(" + ticks + ") beyond the end of time", x, () -> x.pass(ticks));
        }
        Burrowline x = at(500000000);
        for (int ticks : besides(1, 60)) {
            noArgument("pass(" + ticks + ") at the end of time", x, () -> x.pass(ticks));
        }
        same("now is as it was", x.now(), 500000000);
    }

    private static void agesAtTheEndOfTime() throws ReflectiveOperationException {
        Burrowline x = met();
        for (int end = 0; end < 3; end++) {
            x.greet(end, (end + 1) % 3);
            for (int i = 0; i < 3; i++) {
                x.deliver(0);
            }
        }
        set(x, "time", 500000000);
        same("an age", x.session(2, 1, 1, 2), 500000000);
        is("the mean of six, whose sum is no int", x.meanAge() == 500000000.0);
        isNot("usable", x.isUsable(0, 1));
    }

    private static void stampsAtTheEndOfTime() throws ReflectiveOperationException {
        Burrowline x = at(500000000);
        x.greet(0, 1);
        same("a stamp", x.stamp(0, 1, true), 2000000000);
        x.twice(0);
        for (int i = 1; i <= 20; i++) {
            same("a turned stamp", x.turn(0, 3, 500), 2000000000 + 500 * i);
        }
        same("is bad", x.deliver(0), -2);
        same("its double", x.deliver(0), 3);
        same("the stamp taken", x.stamp(1, 0, false), 2000000000);
    }

    public static void main(String[] args) throws ReflectiveOperationException {
        unsoundSessions();
        unsoundLetters();
        endOfTime();
        agesAtTheEndOfTime();
        stampsAtTheEndOfTime();
        finish();
    }
}
