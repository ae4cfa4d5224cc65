/** The edges of the numbers: Terms 1 and the promises 32 to 34, sentence by sentence. */
public final class EdgeNumbersTest extends Checks {
    private static void restsFromNoughtOn() {
        Burrowline x = new Burrowline();
        same("a rest of one below 0", x.seal(65520, 0, 1, 0), 65520);
        same("a rest of 0", x.seal(65520, 0, 2, 0), 0);
        same("a rest of 1", x.seal(65520, 0, 3, 0), 1);
        x.load(1, true);
        x.greet(0, 1);
        same("a small TAG", x.letter(0, 7), 615);
        x.turn(0, 4, -500);
        x.turn(0, 4, -500);
        same("ASKED by a TAG below 0", x.deliver(0), -7);
        int c = cookieOf(1, 0, 10);
        same("a seal by a MIX with it", x.letter(0, 5), seal(mix(3, publicOfEnd(1), -385), 3, 1, c));
    }

    private static void stampBelowNought() {
        Burrowline x = new Burrowline();
        x.greet(0, 1);
        for (int i = 1; i <= 20; i++) {
            x.turn(0, 3, -500);
        }
        same("a STAMP below 0", x.letter(0, 6), -9999);
        same("is BAD", x.deliver(0), -2);
    }

    private static void powerIsARest() {
        Burrowline x = new Burrowline();
        same("the last power of G below P", x.publicOf(3), 343);
        same("the first one above", x.publicOf(4), 2401 - 2039);
        for (int number : new int[] {1, 2, 7, 1000, 2037, 2038}) {
            same("once " + number, x.shared(1, number), number);
            same("twice " + number, x.shared(2, number), number * number % 2039);
            same("all around by " + number, x.shared(2038, number), 1);
            same("once around by " + number, x.shared(2039, number), number);
        }
    }

    private static void powerOfNone() {
        Burrowline x = new Burrowline();
        same("of G", x.publicOf(0), 1);
        for (int number : new int[] {1, 2, 7, 1000, 2038}) {
            same("of " + number, x.shared(0, number), 1);
        }
    }

    private static void mixOfNought() {
        Burrowline x = new Burrowline();
        x.load(1, true);
        for (int minute = 0; minute < 249; minute++) {
            x.pass(60);
        }
        x.greet(0, 1);
        x.reroute(0, 83);
        x.twice(0);
        same("ASKED", x.deliver(0), -7);
        same("m would be 0", x.letter(1, 4), 1);
        x.reroute(0, 84);
        same("ASKED from beside it", x.deliver(0), -7);
        same("m is 1 of itself", x.letter(1, 4), 1);
    }

    private static void sealOfEach() {
        Burrowline x = new Burrowline();
        same("each once, by 1", x.seal(1, -1, -1, -1), 3);
        same("one K more", x.seal(2, -1, -1, -1), 2 + 4 + 8);
        same("all the greatest", x.seal(65520, 9999, 9999, 9999), seal(65520, 9999, 9999, 9999));
        same("all the greatest, by 1", x.seal(1, 9999, 9999, 9999), 30003);
        for (int key : new int[] {1, 2, 65519, 65520}) {
            for (int number : new int[] {-1, 0, 9998, 9999}) {
                same("first", x.seal(key, number, 3, 4), seal(key, number, 3, 4));
                same("second", x.seal(key, 3, number, 4), seal(key, 3, number, 4));
                same("third", x.seal(key, 3, 4, number), seal(key, 3, 4, number));
            }
        }
    }

    private static void publicOfEdges() {
        Burrowline x = busy();
        for (int secret : new int[] {0, 1, 999999, 1000000}) {
            same("of " + secret, x.publicOf(secret), pow(7, secret));
        }
        for (int secret : besides(0, 1000000)) {
            noArgument("of " + secret, x, () -> x.publicOf(secret));
        }
    }

    private static void sharedEdges() {
        Burrowline x = busy();
        for (int secret : new int[] {0, 1, 999999, 1000000}) {
            for (int number : new int[] {1, 2, 2037, 2038}) {
                same("of " + secret + ", " + number, x.shared(secret, number), pow(number, secret));
            }
        }
        for (int secret : besides(0, 1000000)) {
            noArgument("of the secret " + secret, x, () -> x.shared(secret, 1));
        }
        for (int number : besides(1, 2038)) {
            noArgument("of the number " + number, x, () -> x.shared(1, number));
        }
        noArgument("of both", x, () -> x.shared(-1, 0));
    }

    private static void sealEdges() {
        Burrowline x = busy();
        for (int key : new int[] {1, 65520}) {
            same("taken", x.seal(key, -1, -1, -1), seal(key, -1, -1, -1));
            same("taken", x.seal(key, 9999, 9999, 9999), seal(key, 9999, 9999, 9999));
        }
        for (int key : besides(1, 65520)) {
            noArgument("the key " + key, x, () -> x.seal(key, 0, 0, 0));
        }
        for (int number : besides(-1, 9999)) {
            noArgument("the first " + number, x, () -> x.seal(1, number, 0, 0));
            noArgument("the second " + number, x, () -> x.seal(1, 0, number, 0));
            noArgument("the third " + number, x, () -> x.seal(1, 0, 0, number));
        }
    }

    public static void main(String[] args) {
        sentence("1: rests are from 0 on", EdgeNumbersTest::restsFromNoughtOn);
        sentence("1: rests are from 0 on", EdgeNumbersTest::stampBelowNought);
        sentence("1: The POWER of b to the n-th is the rest of the product of n times b by P",
            EdgeNumbersTest::powerIsARest);
        sentence("1: (1 for n = 0)", EdgeNumbersTest::powerOfNone);
        sentence("1: at the end it is m, or 1 if m is 0", EdgeNumbersTest::mixOfNought);
        sentence("1: and so on, each number one K more", EdgeNumbersTest::sealOfEach);
        sentence("Promise 32: Throws IllegalArgumentException if secret is not 0 to 1000000",
            EdgeNumbersTest::publicOfEdges);
        sentence("Promise 33: Throws IllegalArgumentException if secret is not 0 to 1000000, or number is not 1 to 2038",
            EdgeNumbersTest::sharedEdges);
        sentence("Promise 34: Throws IllegalArgumentException if one of the numbers is out of its range",
            EdgeNumbersTest::sealEdges);
        finish();
    }
}
