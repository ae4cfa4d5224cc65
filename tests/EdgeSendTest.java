/** The edges of what is sent and of what is TURNED: Terms 6 and 7, sentence by sentence. */
public final class EdgeSendTest extends Checks {
    private static final int HELLO = 1;
    private static final int DATA = 4;
    private static final int BAD = -2;
    private static final int TAKEN = 3;

    // ---------------------------------------------------------------- 6. To send

    private static void byTheTable() {
        Burrowline x = met();
        x.allow(0, 2, 192, 2);
        same("127 to none", x.send(0, 5, 127, 1), -1);
        same("nothing is sent", x.letters(), 0);
        same("and none WAITS", x.waiting(0, 1) + x.waiting(0, 2), 0);
        same("128 to 1", x.send(0, 5, 128, 1), 1);
        same("191 to 1", x.send(0, 5, 191, 1), 1);
        same("192 to 2", x.send(0, 5, 192, 1), 0);
        same("which WAITS", x.waiting(0, 2), 1);
        same("255 to 2", x.send(0, 5, 255, 1), 0);
        same("SOURCE is not looked at", x.send(0, 255, 191, 1), 1);
    }

    private static void dataIfUsable() {
        Burrowline x = met();
        x.greet(1, 0);
        x.reroute(0, 44);
        x.deliver(0);
        x.lose(0);
        same("send", x.send(0, 0, 255, 9999), 1);
        letter("to the KNOWN address", x, 0, 10, 44, DATA, 2, 1, 0, 255, 9999);
        same("its TAG", x.letter(0, 8), seal(x.session(0, 1, 1, 6), 4, 2, 1, 0, 255, 9999));
        same("no HELLO", x.letters(), 1);
    }

    private static void renewedFromAge20() {
        Burrowline x = met(19);
        x.send(0, 5, 200, 1);
        same("at 19", x.letters(), 1);
        same("none in FLIGHT", x.flight(0, 1), -1);
        x.pass(1);
        same("at 20", x.send(0, 5, 200, 1), 1);
        same("DATA first", x.letter(1, 2), DATA);
        same("then a HELLO", x.letter(2, 2), HELLO);
        same("in FLIGHT", x.flight(0, 1), 3);
        Burrowline y = met(29);
        y.send(0, 5, 200, 1);
        same("at 29", y.letters(), 2);
    }

    private static void renewedFrom30Letters() {
        Burrowline x = sealed(28);
        x.send(0, 5, 200, 1);
        same("the 29th", x.letters(), 1);
        x.send(0, 5, 200, 1);
        same("the 30th", x.letters(), 3);
        same("DATA first", x.letter(1, 2), DATA);
        same("then a HELLO", x.letter(2, 2), HELLO);
        Burrowline y = sealed(39);
        same("the 40th", y.send(0, 5, 200, 1), 1);
        same("and a HELLO", y.letters(), 2);
        same("the 41st", y.send(0, 5, 200, 1), 0);
        same("WAITS, and the HELLO is FRESH", y.letters(), 2);
    }

    private static void renewedJustByWhoBegan() {
        Burrowline x = met(20);
        same("at 20", x.send(1, 200, 5, 1), 1);
        same("DATA alone", x.letters(), 1);
        x.pass(9);
        x.send(1, 200, 5, 1);
        same("at 29", x.letters(), 2);
        Burrowline y = met();
        for (int i = 0; i < 40; i++) {
            same("up to 40 letters", y.send(1, 200, 5, 1), 1);
        }
        same("DATA alone", y.letters(), 40);
        same("none in FLIGHT", y.flight(1, 0), -1);
    }

    private static void notRenewedWhileFresh() {
        Burrowline x = met(16);
        x.greet(0, 1);
        x.pass(4);
        x.send(0, 5, 200, 1);
        same("a HELLO of the age 4", x.letters(), 2);
        x.pass(1);
        x.send(0, 5, 200, 1);
        same("a HELLO of the age 5", x.letters(), 4);
        same("the new one", x.flight(0, 1), 4);
        Burrowline y = met(20);
        y.greet(0, 2);
        y.send(0, 5, 200, 1);
        same("a FRESH one to another peer", y.letters(), 3);
        Burrowline z = met(20);
        z.greet(1, 0);
        z.send(0, 5, 200, 1);
        same("a FRESH one of the peer", z.letters(), 3);
    }

    private static void notUsableByAge() {
        Burrowline x = met(29);
        same("at 29", x.send(0, 5, 200, 1), 1);
        x.lose(0);
        x.lose(0);
        x.pass(1);
        same("at 30", x.send(0, 5, 200, 1), 0);
        same("WAITS", x.waiting(0, 1), 1);
        same("the HELLO of 29 is FRESH", x.letters(), 0);
        x.pass(4);
        x.send(0, 5, 200, 1);
        same("a HELLO", x.letter(0, 2), HELLO);
    }

    private static void waitsBehindTheOthers() {
        Burrowline x = routed();
        for (int load = 1; load <= 6; load++) {
            same("send", x.send(0, load, 128 + load, load), 0);
            same("WAIT", x.waiting(0, 1), Math.min(load, 4));
        }
        same("one HELLO", x.letters(), 1);
        x.deliver(0);
        x.deliver(0);
        for (int i = 0; i < 4; i++) {
            letter("the latest four, in order", x, i, 10, 20, DATA, 2, i, 3 + i, 131 + i, 3 + i);
        }
    }

    private static void aHelloUnlessFresh() {
        Burrowline x = routed();
        x.send(0, 5, 200, 1);
        same("none in FLIGHT", x.letters(), 1);
        x.pass(4);
        x.send(0, 5, 200, 2);
        same("one of the age 4", x.letters(), 1);
        x.pass(1);
        x.send(0, 5, 200, 3);
        same("one of the age 5", x.letters(), 2);
        same("the new one", x.flight(0, 1), 2);
        x.send(1, 200, 5, 3);
        same("the peer's own", x.flight(1, 0), 3);
    }

    private static void noHelloWithWaitingOnes() {
        Burrowline x = offered();
        for (int load = 0; load < 4; load++) {
            x.send(1, 200, 5, load);
        }
        x.lose(1);
        x.deliver(0);
        x.pass(25);
        x.later(0);
        same("at 25", x.deliver(0), 2);
        same("four letters", x.letters(), 4);
        for (int i = 0; i < 4; i++) {
            same("KIND", x.letter(i, 2), DATA);
        }
        same("the elder HELLO is in FLIGHT", x.flight(1, 0), 3);
    }

    private static void waitOnWithoutCurrent() {
        Burrowline x = routed();
        x.send(0, 5, 200, 1);
        x.greet(1, 0);
        x.deliver(1);
        same("a NEXT is no CURRENT", x.waiting(0, 1), 1);
        x.pass(60);
        same("nor does time send it", x.waiting(0, 1), 1);
    }

    private static void keepSendsNoHello() {
        Burrowline x = met(20);
        is("at 20", x.keep(0, 1));
        same("DATA alone", x.letters(), 1);
        Burrowline y = sealed(29);
        is("the 30th", y.keep(0, 1));
        same("DATA alone", y.letters(), 1);
        isNot("none of a peer without a session", y.keep(0, 2));
        same("which gets none", y.letters(), 1);
        same("nor a HELLO", y.flight(0, 2), -1);
    }

    // ---------------------------------------------------------------- 7. To TURN

    /** A letter of that KIND alone in the net. */
    private static Burrowline justOne(int kind) {
        Burrowline x = met(20);
        if (kind == 3) {
            x.load(1, true);
        }
        if (kind == 4) {
            x.keep(0, 1);
        } else {
            x.greet(0, 1);
        }
        if (kind == 2 || kind == 3) {
            x.deliver(0);
        }
        same("KIND", x.letter(0, 2), kind);
        return x;
    }

    private static void whichFields(int kind, String can) {
        for (int field = 0; field < 6; field++) {
            Burrowline x = justOne(kind);
            int before = x.letter(0, 3 + field);
            int asked = field;
            if (can.indexOf('0' + field) >= 0) {
                same("FIELD " + field, x.turn(0, field, 3), before + 3);
                same("as it is told", x.letter(0, 3 + field), before + 3);
            } else {
                noArgument("FIELD " + field, x, () -> x.turn(0, asked, 3));
            }
        }
        Burrowline x = justOne(kind);
        for (int field : besides(0, 5)) {
            noArgument("FIELD " + field, x, () -> x.turn(0, field, 3));
        }
    }

    private static void justOneField() {
        Burrowline x = justOne(DATA);
        x.turn(0, 2, 9);
        noState("another one", x, () -> x.turn(0, 3, 1));
        same("the same again", x.turn(0, 2, -10), -2);
        x.turn(0, 2, 1);
        isNot("as it was", x.isTurned(0));
        noState("still no other", x, () -> x.turn(0, 5, 1));
        same("but this", x.turn(0, 2, 1), 0);
    }

    private static void justOneFieldOfDoubles() {
        Burrowline x = justOne(DATA);
        x.twice(0);
        x.turn(0, 2, 9);
        x.twice(0);
        same("a double made before is free", x.turn(1, 3, 1), 0);
        is("a double made behind is TURNED", x.isTurned(2));
        noState("and has no other FIELD", x, () -> x.turn(2, 3, 1));
        same("but this", x.turn(2, 2, -9), -1);
        isNot("as it was when the first was sent", x.isTurned(2));
        is("each for itself", x.isTurned(0));
        x.twice(2);
        isNot("a double of one as it was", x.isTurned(3));
        noState("has no other FIELD, too", x, () -> x.turn(3, 4, 1));
        x.twice(1);
        noState("a double of the other", x, () -> x.turn(4, 2, 1));
    }

    private static void atMost10000() {
        Burrowline x = justOne(DATA);
        for (int i = 1; i <= 20; i++) {
            same("up", x.turn(0, 4, 500), -1 + 500 * i);
        }
        noArgument("10001", x, () -> x.turn(0, 4, 1));
        noArgument("10500", x, () -> x.turn(0, 4, 500));
        same("10000 after one down and up", x.turn(0, 4, -1) + x.turn(0, 4, 1), 9998 + 9999);
        for (int i = 19; i >= -20; i--) {
            same("down", x.turn(0, 4, -500), -1 + 500 * i);
        }
        noArgument("-10001", x, () -> x.turn(0, 4, -1));
        same("-9999", x.turn(0, 4, 1), -10000);
        noArgument("-10001 by 2", x, () -> x.turn(0, 4, -2));
        same("-10000", x.turn(0, 4, -1), -10001);
    }

    private static void atMost10000OfDoubles() {
        Burrowline x = justOne(HELLO);
        int stamp = x.letter(0, 6);
        for (int i = 1; i <= 20; i++) {
            x.turn(0, 3, -500);
        }
        x.twice(0);
        noArgument("a double is as far", x, () -> x.turn(1, 3, -1));
        same("from what the first was", x.turn(1, 3, 1), stamp - 9999);
        noArgument("the first stays as far", x, () -> x.turn(0, 3, -1));
        x.deliver(1);
        noArgument("so it does when the double is gone", x, () -> x.turn(0, 3, -1));
    }

    private static void turnedWhileItDiffers() {
        Burrowline x = justOne(DATA);
        isNot("as it was sent", x.isTurned(0));
        for (int by : new int[] {1, -1, -1, 1, 500, -500}) {
            boolean was = x.isTurned(0);
            x.turn(0, 3, by);
            same("by " + by, x.isTurned(0) ? 1 : 0, was ? 0 : 1);
        }
        x.reroute(0, 66);
        isNot("FROM is no FIELD", x.isTurned(0));
        same("so that it is taken", x.deliver(0), 2);
    }

    private static void turnedBackIsRight(int kind, int field) {
        Burrowline x = justOne(kind);
        x.turn(0, field, 1);
        x.twice(0);
        x.turn(0, field, -1);
        same("a TURNED one", x.deliver(1), BAD);
        same("one as it was", x.deliver(0), kind == DATA ? 2 : TAKEN);
    }

    private static void sending() {
        sentence("6: A packet that an end sends goes to the peer to which its table gives DEST", EdgeSendTest::byTheTable);
        sentence("6: If CURRENT for that peer is USABLE, a DATA letter is sent to the KNOWN address",
            EdgeSendTest::dataIfUsable);
        sentence("6: and its age is 20 or more", EdgeSendTest::renewedFromAge20);
        sentence("6: or it sealed 30 letters or more (this one counted)", EdgeSendTest::renewedFrom30Letters);
        sentence("6: if the end began that session", EdgeSendTest::renewedJustByWhoBegan);
        sentence("6: and no FRESH HELLO is in FLIGHT to that peer, a HELLO is sent, too",
            EdgeSendTest::notRenewedWhileFresh);
        sentence("6: If it is not USABLE, the packet WAITS", EdgeSendTest::notUsableByAge);
        sentence("6: the packet WAITS behind the others (if 4 wait, the eldest one is forgotten)",
            EdgeSendTest::waitsBehindTheOthers);
        sentence("6: and a HELLO is sent, unless a FRESH one is in FLIGHT", EdgeSendTest::aHelloUnlessFresh);
        sentence("6: (no HELLO is sent with these)", EdgeSendTest::noHelloWithWaitingOnes);
        sentence("6: as long as CURRENT is USABLE", EdgeSendTest::waitOnWithoutCurrent);
        sentence("Promise 8: An end sends an EMPTY letter, if CURRENT is USABLE", EdgeSendTest::keepSendsNoHello);
    }

    private static void turning() {
        sentence("7: of a HELLO 3 or 4", () -> whichFields(1, "34"));
        sentence("7: of a REPLY 3", () -> whichFields(2, "3"));
        sentence("7: of a COOKIE 1 or 2", () -> whichFields(3, "12"));
        sentence("7: of a DATA letter 1 to 5", () -> whichFields(4, "12345"));
        sentence("7: Just one FIELD of a letter", EdgeSendTest::justOneField);
        sentence("7: and of its doubles that are made behind that", EdgeSendTest::justOneFieldOfDoubles);
        sentence("7: but often, to at most 10000 from what it was when the letter was sent", EdgeSendTest::atMost10000);
        sentence("7: but often, to at most 10000 from what it was when the letter was sent",
            EdgeSendTest::atMost10000OfDoubles);
        sentence("7: It is TURNED while this FIELD is not what it was when the letter was sent",
            EdgeSendTest::turnedWhileItDiffers);
        String back = "7: It is TURNED while this FIELD is not what it was when the letter was sent";
        sentence(back, () -> turnedBackIsRight(1, 3));
        sentence(back, () -> turnedBackIsRight(1, 4));
        sentence(back, () -> turnedBackIsRight(2, 3));
        sentence(back, () -> turnedBackIsRight(3, 1));
        sentence(back, () -> turnedBackIsRight(3, 2));
        for (int field = 1; field <= 5; field++) {
            int asked = field;
            sentence(back, () -> turnedBackIsRight(4, asked));
        }
    }

    public static void main(String[] args) {
        sending();
        turning();
        finish();
    }
}
