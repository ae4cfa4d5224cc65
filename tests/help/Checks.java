import java.math.BigInteger;
import java.util.NoSuchElementException;

/**
 * What the tests share: how they count what is wrong, the numbers of the document reckoned apart from the
 * class, and objects that have come so far.
 */
class Checks {
    static final int MIN = Integer.MIN_VALUE;
    static final int MAX = Integer.MAX_VALUE;

    private static final int MOST_TOLD = 4;

    private static int wrong = 0;
    private static int wrongOfSentence = 0;
    private static String sentence = "";

    interface Call {
        void go();
    }

    interface EndCall {
        void go(int end);
    }

    interface PairCall {
        void go(int end, int peer);
    }

    // ---------------------------------------------------------------- counting

    static void wrong(String told) {
        wrong++;
        wrongOfSentence++;
        if (sentence.isEmpty()) {
            System.out.println(told);
        } else if (wrongOfSentence <= MOST_TOLD) {
            System.out.println("[" + sentence + "] " + told);
        }
    }

    /** Tests one sentence of the document; what goes wrong in it does not keep the others from their tests. */
    static void sentence(String told, Call test) {
        sentence = told;
        wrongOfSentence = 0;
        try {
            test.go();
        } catch (RuntimeException e) {
            wrong("threw " + e + " at " + e.getStackTrace()[0]);
        }
        sentence = "";
    }

    static void finish() {
        if (wrong > 0) {
            System.out.println(wrong + " wrong");
            System.exit(1);
        }
    }

    static void same(String what, long got, long want) {
        if (got != want) {
            wrong(what + " answered " + got + ", due is " + want);
        }
    }

    static void is(String what, boolean got) {
        same(what, got ? 1 : 0, 1);
    }

    static void isNot(String what, boolean got) {
        same(what, got ? 1 : 0, 0);
    }

    // ---------------------------------------------------------------- refused calls

    static void throwsJust(Class<?> want, String what, Burrowline x, Call call) {
        String before = all(x);
        String got = "nothing";
        try {
            call.go();
        } catch (RuntimeException e) {
            // The class is to throw itself: what a list or the machine throws has another place on top.
            boolean isOwn = e.getStackTrace()[0].getClassName().startsWith("Burrowline");
            got = e.getClass().getSimpleName() + (isOwn ? "" : " of the library");
        }
        if (!got.equals(want.getSimpleName())) {
            wrong(what + " threw " + got + ", due is " + want.getSimpleName());
        }
        if (!all(x).equals(before)) {
            wrong(what + " threw and changed something");
        }
    }

    static void noIndex(String what, Burrowline x, Call call) {
        throwsJust(IndexOutOfBoundsException.class, what, x, call);
    }

    static void noArgument(String what, Burrowline x, Call call) {
        throwsJust(IllegalArgumentException.class, what, x, call);
    }

    static void noState(String what, Burrowline x, Call call) {
        throwsJust(IllegalStateException.class, what, x, call);
    }

    static void noElement(String what, Burrowline x, Call call) {
        throwsJust(NoSuchElementException.class, what, x, call);
    }

    /** The first numbers beside those from 0 to the most, and the farthest ones. */
    static int[] besides(int least, int most) {
        return new int[] {least - 1, most + 1, MIN, MAX};
    }

    /** A call takes the ends 0 to 2 alone; others are looked at before anything else. */
    static void endsOnly(String what, Burrowline x, EndCall call) {
        for (int end : besides(0, 2)) {
            noIndex(what + " of the end " + end, x, () -> call.go(end));
        }
    }

    /** A call takes an end and another one; whether they are there is looked at before whether they are one. */
    static void pairsOnly(String what, Burrowline x, PairCall call) {
        for (int none : besides(0, 2)) {
            noIndex(what + " of the end " + none, x, () -> call.go(none, 0));
            noIndex(what + " of the peer " + none, x, () -> call.go(0, none));
            noIndex(what + " of the end and peer " + none, x, () -> call.go(none, none));
        }
        for (int end = 0; end < 3; end++) {
            int one = end;
            noArgument(what + " of the end itself, " + end, x, () -> call.go(one, one));
        }
    }

    // ---------------------------------------------------------------- looking

    /** All that can be asked of an object, as a text. */
    static String all(Burrowline x) {
        StringBuilder s = new StringBuilder();
        s.append(x.checksum()).append(' ').append(x.now()).append(' ').append(x.letters()).append(' ');
        for (int e = 0; e < 3; e++) {
            s.append(x.address(e)).append(',').append(x.outs(e)).append(',');
            for (int i = 0; i < 256; i++) {
                s.append(x.route(e, i));
            }
            for (int p = 0; p < 3; p++) {
                if (p != e) {
                    s.append(x.known(e, p)).append(',').append(x.flight(e, p)).append(',').append(x.waiting(e, p));
                    s.append(',').append(x.cookie(e, p)).append(',').append(x.stamp(e, p, true)).append(',');
                    s.append(x.stamp(e, p, false)).append(',').append(x.isUsable(e, p)).append(sessions(x, e, p));
                }
            }
        }
        for (int i = 0; i < x.letters(); i++) {
            for (int what = 0; what < 9; what++) {
                s.append(x.letter(i, what)).append(',');
            }
            s.append(x.isTurned(i));
        }
        return s.append(x.share()).append(x.meanAge()).toString();
    }

    private static String sessions(Burrowline x, int e, int p) {
        StringBuilder s = new StringBuilder();
        for (int w = 0; w < 3; w++) {
            for (int what = 0; what < 9 && hasSession(x, e, p, w); what++) {
                s.append(x.session(e, p, w, what)).append(';');
            }
            s.append('|');
        }
        return s.toString();
    }

    static boolean hasSession(Burrowline x, int e, int p, int which) {
        try {
            x.session(e, p, which, 0);
            return true;
        } catch (NoSuchElementException none) {
            return false;
        }
    }

    /** FROM, TO, KIND and the FIELDS of a letter, as many as are told. */
    static void letter(String what, Burrowline x, int letter, int... want) {
        for (int i = 0; i < want.length; i++) {
            same(what + ", part " + i, x.letter(letter, i), want[i]);
        }
    }

    static void session(String what, Burrowline x, int end, int peer, int which, int... want) {
        for (int i = 0; i < want.length; i++) {
            same(what + ", part " + i, x.session(end, peer, which, i), want[i]);
        }
    }

    /** The checksum by what the other calls tell, with how many ROUTES and which loads (0 or 1) the ends have. */
    static long sumOf(Burrowline x, int[] routes, int[] loads) {
        long d = 31 * 31 + x.now();
        for (int e = 0; e < 3; e++) {
            d = 31 * d + x.address(e);
            d = 31 * d + loads[e];
            d = 31 * d + routes[e];
        }
        for (int e = 0; e < 3; e++) {
            for (int p = 0; p < 3; p++) {
                if (p != e) {
                    d = 31 * d + x.known(e, p);
                    d = 31 * d + x.flight(e, p);
                    d = 31 * d + x.stamp(e, p, false);
                    d = 31 * d + x.waiting(e, p);
                    for (int w = 0; w < 3; w++) {
                        boolean isThere = hasSession(x, e, p, w);
                        d = 31 * d + (isThere ? x.session(e, p, w, 0) : -1);
                        for (int what : isThere ? new int[] {6, 3, 5} : new int[0]) {
                            d = 31 * d + x.session(e, p, w, what);
                        }
                    }
                }
            }
        }
        for (int e = 0; e < 3; e++) {
            d = 31 * d + x.outs(e);
            for (int i = 0; i < x.outs(e); i++) {
                d = 31 * d + x.out(e, i, 3);
            }
        }
        for (int i = 0; i < x.letters(); i++) {
            for (int what = 0; what < 9; what++) {
                d = 31 * d + x.letter(i, what);
            }
        }
        for (int code = -7; code <= 3; code++) {
            d = 31 * d + x.drops(code);
        }
        return d;
    }

    // ---------------------------------------------------------------- the numbers of the document

    static int pow(long b, long n) {
        return BigInteger.valueOf(b).modPow(BigInteger.valueOf(n), BigInteger.valueOf(2039)).intValue();
    }

    static int secretOfEnd(int end) {
        return new int[] {211, 518, 825}[end];
    }

    static int publicOfEnd(int end) {
        return pow(7, secretOfEnd(end));
    }

    static int secretOf(int n) {
        return 577 * n % 1018 + 1;
    }

    static int publicOfNumber(int n) {
        return pow(7, secretOf(n));
    }

    static int mix(int... numbers) {
        long m = 17;
        for (int v : numbers) {
            m = Math.floorMod(31 * m + v + 2, 65521L);
        }
        return m == 0 ? 1 : (int) m;
    }

    static int seal(int key, int... numbers) {
        BigInteger sum = BigInteger.ZERO;
        for (int i = 0; i < numbers.length; i++) {
            sum = sum.add(BigInteger.valueOf(key).pow(i + 1).multiply(BigInteger.valueOf(numbers[i] + 2L)));
        }
        return sum.mod(BigInteger.valueOf(65521)).intValue();
    }

    static int helloKey(int a, int b, int n) {
        return mix(1, pow(publicOfEnd(b), secretOf(n)), pow(publicOfEnd(b), secretOfEnd(a)));
    }

    static int helloTag(int a, int b, int n, int stamp) {
        return seal(helloKey(a, b, n), 1, n, publicOfNumber(n), 10 * a + b, stamp);
    }

    static int replyKey(int a, int b, int n, int j) {
        return mix(4, helloKey(a, b, n), pow(publicOfNumber(n), secretOf(j)), pow(publicOfEnd(a), secretOf(j)));
    }

    static int cookieOf(int end, int minute, int from) {
        return mix(6, secretOfEnd(end), minute, from);
    }

    // ---------------------------------------------------------------- objects that have come so far

    /** The end 0 sends to 1 what is for 128 and above, the end 1 to 0 what is below. */
    static Burrowline routed() {
        Burrowline x = new Burrowline();
        x.allow(0, 1, 128, 1);
        x.allow(1, 0, 0, 1);
        return x;
    }

    /** As routed(), and the end 1 took a HELLO of 0, so that it has a NEXT; the REPLY lies in the net. */
    static Burrowline offered() {
        Burrowline x = routed();
        x.greet(0, 1);
        same("deliver of a hello", x.deliver(0), 3);
        return x;
    }

    /** As routed(), with a session of the number 1 at the end 0, and of 2 at the end 1; no letters. */
    static Burrowline met() {
        Burrowline x = offered();
        same("deliver of a reply", x.deliver(0), 3);
        same("deliver of an empty letter", x.deliver(0), 2);
        same("letters after the meeting", x.letters(), 0);
        return x;
    }

    /** As met(), with sessions of that age. */
    static Burrowline met(int age) {
        Burrowline x = met();
        if (age > 0) {
            x.pass(age);
        }
        return x;
    }

    /** As met(), but the sessions of the end 0 sealed so many letters; none of them lies in the net. */
    static Burrowline sealed(int count) {
        Burrowline x = met();
        while (x.session(0, 1, 1, 3) < count) {
            x.keep(0, 1);
            x.lose(0);
        }
        return x;
    }

    /** A house where much goes on, for calls that are to change nothing of it. */
    static Burrowline busy() {
        Burrowline x = met(2);
        x.send(0, 5, 200, 77);
        x.deliver(0);
        x.greet(0, 1);
        x.deliver(0);
        x.load(2, true);
        x.greet(1, 2);
        x.deliver(1);
        x.deliver(1);
        x.allow(2, 0, 64, 2);
        x.send(2, 1, 70, 9);
        x.send(1, 200, 7, 8);
        x.twice(2);
        x.turn(3, 4, 5);
        x.reroute(2, 45);
        x.move(0, 11);
        return x;
    }

    /** Fills the net with doubles of its first letter. */
    static void fill(Burrowline x, int letters) {
        while (x.letters() < letters) {
            x.twice(0);
        }
    }
}
