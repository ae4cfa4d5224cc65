/**
 * The edges of each call: the last numbers that it takes and the first that it refuses, which exception comes
 * first, and that a refused call changes nothing. The numbers' calls stand in EdgeNumbersTest.
 */
public final class EdgeCallsTest extends Checks {
    // ---------------------------------------------------------------- deeds

    private static void passTicks() {
        Burrowline x = busy();
        int now = x.now();
        same("1", x.pass(1), now + 1);
        same("60", x.pass(60), now + 61);
        for (int ticks : besides(1, 60)) {
            noArgument("" + ticks, x, () -> x.pass(ticks));
        }
    }

    private static void moveAddresses() {
        Burrowline x = busy();
        same("to 1", x.move(0, 1), 11);
        same("to 99", x.move(0, 99), 1);
        same("to its own", x.move(0, 99), 99);
        for (int address : besides(1, 99)) {
            noArgument("to " + address, x, () -> x.move(0, address));
        }
        noArgument("to that of 1", x, () -> x.move(0, 20));
        noArgument("to that of 2", x, () -> x.move(0, 30));
        noArgument("of 1 to that of 0", x, () -> x.move(1, 99));
        same("to one that is free again", x.move(2, 11), 30);
        same("and to that one's", x.move(1, 30), 20);
    }

    private static void moveFirst() {
        Burrowline x = busy();
        endsOnly("to its address", x, end -> x.move(end, 20));
        endsOnly("to none", x, end -> x.move(end, 0));
    }

    private static void loadEnds() {
        Burrowline x = busy();
        endsOnly("load", x, end -> x.load(end, true));
        for (int end = 0; end < 3; end++) {
            same("was", x.load(end, true) ? 1 : 0, end == 2 ? 1 : 0);
            is("is", x.load(end, false));
            isNot("is not", x.load(end, false));
        }
    }

    private static void allowNumbers() {
        Burrowline x = new Burrowline();
        same("0, 0", x.allow(0, 1, 0, 0), 1);
        same("255, 8", x.allow(0, 2, 255, 8), 2);
        same("255, 0 is 0, 0", x.allow(0, 2, 255, 0), 2);
        same("0, 8", x.allow(0, 1, 0, 8), 3);
        for (int prefix : besides(0, 255)) {
            noArgument("the PREFIX " + prefix, x, () -> x.allow(0, 1, prefix, 8));
        }
        for (int bits : besides(0, 8)) {
            noArgument("BITS " + bits, x, () -> x.allow(0, 1, 0, bits));
        }
    }

    private static Burrowline fullTable() {
        Burrowline x = busy();
        for (int i = 1; i <= 7; i++) {
            same("ROUTE", x.allow(2, 0, i, 8), i + 1);
        }
        return x;
    }

    private static void allowInPlace() {
        Burrowline x = fullTable();
        same("in place of one, while there are 8", x.allow(2, 1, 3, 8), 8);
        same("is there", x.route(2, 3), 1);
        same("in place of one by its BITS alone", x.allow(2, 1, 127, 2), 8);
        same("is there", x.route(2, 64), 1);
        same("the others stay", x.route(2, 4), 0);
    }

    private static void allowEight() {
        Burrowline x = fullTable();
        noState("a ninth", x, () -> x.allow(2, 1, 8, 8));
        noState("the same PREFIX with other BITS", x, () -> x.allow(2, 1, 3, 7));
        noState("the same BITS with another PREFIX", x, () -> x.allow(2, 1, 128, 2));
    }

    private static void allowFirst() {
        Burrowline x = fullTable();
        pairsOnly("of a full table", x, (end, peer) -> x.allow(end, peer, 8, 8));
        pairsOnly("with a wrong PREFIX", x, (end, peer) -> x.allow(end, peer, 256, 8));
        pairsOnly("with wrong BITS", x, (end, peer) -> x.allow(end, peer, 8, 9));
        noArgument("a wrong PREFIX before 8", x, () -> x.allow(2, 1, 256, 8));
        noArgument("wrong BITS before 8", x, () -> x.allow(2, 1, 8, 9));
        noArgument("the end itself before 8", x, () -> x.allow(2, 2, 8, 8));
    }

    private static void forbidNumbers() {
        Burrowline x = new Burrowline();
        x.allow(0, 1, 0, 0);
        x.allow(0, 1, 255, 8);
        x.allow(0, 1, 0, 8);
        same("0, 8", x.forbid(0, 0, 8), 2);
        same("255, 8", x.forbid(0, 255, 8), 1);
        same("0, 0", x.forbid(0, 0, 0), 0);
        for (int prefix : besides(0, 255)) {
            noArgument("the PREFIX " + prefix, x, () -> x.forbid(0, prefix, 8));
        }
        for (int bits : besides(0, 8)) {
            noArgument("BITS " + bits, x, () -> x.forbid(0, 0, bits));
        }
    }

    private static void forbidNone() {
        Burrowline empty = new Burrowline();
        noElement("of an empty table", empty, () -> empty.forbid(0, 0, 0));
        Burrowline x = fullTable();
        noElement("another PREFIX", x, () -> x.forbid(2, 8, 8));
        noElement("other BITS", x, () -> x.forbid(2, 64, 3));
        noElement("of another end", x, () -> x.forbid(1, 3, 8));
        same("of its low bits", x.forbid(2, 127, 2), 7);
        noElement("twice", x, () -> x.forbid(2, 64, 2));
    }

    private static void forbidFirst() {
        Burrowline x = busy();
        endsOnly("none", x, end -> x.forbid(end, 1, 8));
        endsOnly("a wrong PREFIX", x, end -> x.forbid(end, 256, 8));
        endsOnly("wrong BITS", x, end -> x.forbid(end, 1, 9));
    }

    private static void sendNumbers() {
        Burrowline x = met();
        x.allow(0, 1, 0, 0);
        same("the least", x.send(0, 0, 0, 0), 1);
        same("the most", x.send(0, 255, 255, 9999), 1);
        letter("the least", x, 0, 10, 20, 4, 2, 1, 0, 0, 0);
        letter("the most", x, 1, 10, 20, 4, 2, 2, 255, 255, 9999);
        for (int inner : besides(0, 255)) {
            noArgument("SOURCE " + inner, x, () -> x.send(0, inner, 0, 0));
            noArgument("DEST " + inner, x, () -> x.send(0, 0, inner, 0));
        }
        for (int load : besides(0, 9999)) {
            noArgument("LOAD " + load, x, () -> x.send(0, 0, 0, load));
        }
    }

    private static void sendFirst() {
        Burrowline x = busy();
        endsOnly("send", x, end -> x.send(end, 1, 2, 3));
        endsOnly("a wrong SOURCE", x, end -> x.send(end, 256, 2, 3));
        endsOnly("a wrong LOAD", x, end -> x.send(end, 1, 2, 10000));
        noArgument("a wrong SOURCE to none", x, () -> x.send(2, 256, 0, 3));
        noArgument("a wrong LOAD to none", x, () -> x.send(2, 1, 0, -1));
    }

    private static void keepPairs() {
        Burrowline x = busy();
        pairsOnly("keep", x, x::keep);
    }

    private static void greetPairs() {
        Burrowline x = busy();
        pairsOnly("greet", x, x::greet);
    }

    private static void greetFresh() {
        Burrowline x = new Burrowline();
        x.pass(2);
        x.greet(0, 1);
        noState("at 0", x, () -> x.greet(0, 1));
        x.pass(4);
        noState("at 4", x, () -> x.greet(0, 1));
        same("to another peer", x.greet(0, 2), 2);
        same("of the peer", x.greet(1, 0), 3);
        x.pass(1);
        same("at 5", x.greet(0, 1), 4);
        x.deliver(3);
        x.deliver(3);
        same("when its REPLY was taken", x.greet(0, 1), 6);
    }

    private static void noLetter() {
        Burrowline none = new Burrowline();
        Burrowline x = busy();
        int last = x.letters() - 1;
        for (int place : new int[] {-1, 0, 1, MIN, MAX}) {
            lettersOnly("" + place, none, place);
        }
        for (int place : besides(0, last)) {
            lettersOnly("" + place, x, place);
        }
        Burrowline full = busy();
        fill(full, 60);
        lettersOnly("60 of 60", full, 60);
        same("the last one is taken", x.later(last), last);
    }

    /** Each call of a letter, wrong in all else as well: that there is none is looked at first. */
    private static void lettersOnly(String what, Burrowline x, int letter) {
        noIndex("deliver " + what, x, () -> x.deliver(letter));
        noIndex("lose " + what, x, () -> x.lose(letter));
        noIndex("twice " + what, x, () -> x.twice(letter));
        noIndex("turn " + what, x, () -> x.turn(letter, 4, 1));
        noIndex("turn by 0 " + what, x, () -> x.turn(letter, 9, 0));
        noIndex("reroute " + what, x, () -> x.reroute(letter, 5));
        noIndex("reroute to 0 " + what, x, () -> x.reroute(letter, 0));
        noIndex("later " + what, x, () -> x.later(letter));
        noIndex("letter " + what, x, () -> x.letter(letter, 0));
        noIndex("letter of 9 " + what, x, () -> x.letter(letter, 9));
        noIndex("isTurned " + what, x, () -> x.isTurned(letter));
    }

    /** Letters of the numbers 1 to 4, in this order. */
    private static Burrowline fourLetters() {
        Burrowline x = new Burrowline();
        x.greet(0, 1);
        x.greet(1, 2);
        x.greet(2, 0);
        x.greet(1, 0);
        return x;
    }

    private static void order(String what, Burrowline x, int... numbers) {
        same(what + ", how many", x.letters(), numbers.length);
        for (int i = 0; i < numbers.length; i++) {
            same(what + ", the place " + i, x.letter(i, 3), numbers[i]);
        }
    }

    private static void lose() {
        Burrowline x = fourLetters();
        same("the last", x.lose(3), 3);
        order("the last", x, 1, 2, 3);
        same("the first", x.lose(0), 2);
        order("the first", x, 2, 3);
        same("one more", x.lose(1), 1);
        same("the only one", x.lose(0), 0);
        noIndex("none", x, () -> x.lose(0));
        same("not delivered", x.drops(0), 0);
    }

    private static void twice() {
        Burrowline x = fourLetters();
        x.reroute(0, 44);
        same("the first", x.twice(0), 5);
        order("the first", x, 1, 2, 3, 4, 1);
        same("the last", x.twice(4), 6);
        order("the last", x, 1, 2, 3, 4, 1, 1);
        for (int what = 0; what < 9; what++) {
            same("part " + what, x.letter(5, what), x.letter(0, what));
        }
    }

    private static void twiceOf60() {
        Burrowline x = busy();
        fill(x, 59);
        same("of 59", x.twice(58), 60);
        noState("of 60", x, () -> x.twice(0));
        noState("of 60, the last", x, () -> x.twice(59));
        x.lose(7);
        same("of 59 again", x.twice(0), 60);
    }

    private static void later() {
        Burrowline x = fourLetters();
        same("the first", x.later(0), 3);
        order("the first", x, 2, 3, 4, 1);
        same("the last", x.later(3), 3);
        order("the last", x, 2, 3, 4, 1);
        same("the second", x.later(1), 3);
        order("the second", x, 2, 4, 1, 3);
        fill(x, 60);
        same("of 60", x.later(0), 59);
        same("is the last", x.letter(59, 3), 2);
        Burrowline y = new Burrowline();
        y.greet(0, 1);
        same("the only one", y.later(0), 0);
    }

    private static void turnNumbers() {
        Burrowline x = new Burrowline();
        x.greet(0, 1);
        same("500", x.turn(0, 3, 500), 501);
        same("-500", x.turn(0, 3, -500), 1);
        same("1", x.turn(0, 3, 1), 2);
        same("-1", x.turn(0, 3, -1), 1);
        noArgument("0", x, () -> x.turn(0, 3, 0));
        for (int by : besides(-500, 500)) {
            noArgument("" + by, x, () -> x.turn(0, 3, by));
        }
        for (int field : new int[] {-1, 0, 1, 2, 5, 6, MIN, MAX}) {
            noArgument("the FIELD " + field, x, () -> x.turn(0, field, 1));
        }
    }

    private static void turnFirst() {
        Burrowline x = new Burrowline();
        x.greet(0, 1);
        x.turn(0, 3, 1);
        noState("another FIELD", x, () -> x.turn(0, 4, 1));
        noArgument("another FIELD by 0", x, () -> x.turn(0, 4, 0));
        noArgument("another FIELD by 501", x, () -> x.turn(0, 4, 501));
        noArgument("another FIELD by -501", x, () -> x.turn(0, 4, -501));
        noArgument("one that can't be TURNED", x, () -> x.turn(0, 5, 1));
        for (int i = 1; i < 20; i++) {
            x.turn(0, 3, 500);
        }
        same("10000 of one FIELD", x.turn(0, 3, 499), 10001);
        noState("are none of another", x, () -> x.turn(0, 4, 1));
    }

    private static void reroute() {
        Burrowline x = fourLetters();
        same("to 1", x.reroute(0, 1), 10);
        same("to 99", x.reroute(0, 99), 1);
        same("to the same", x.reroute(0, 99), 99);
        same("to that of an end", x.reroute(0, 20), 99);
        same("to where it goes", x.letter(0, 1), 20);
        for (int address : besides(1, 99)) {
            noArgument("to " + address, x, () -> x.reroute(0, address));
        }
    }

    // ---------------------------------------------------------------- looks

    private static void nowAndLetters() {
        Burrowline x = new Burrowline();
        same("NOW", x.now(), 0);
        same("no letter", x.letters(), 0);
        x.pass(60);
        x.greet(0, 1);
        fill(x, 60);
        same("NOW", x.now(), 60);
        same("60 letters", x.letters(), 60);
        same("NOW is not changed by asking", x.now(), 60);
    }

    private static void letterWhats() {
        Burrowline x = busy();
        for (int letter = 0; letter < x.letters(); letter++) {
            int asked = letter;
            for (int what : besides(0, 8)) {
                noArgument("what " + what, x, () -> x.letter(asked, what));
            }
        }
    }

    private static void letterFieldsThatAreNot() {
        Burrowline x = offered();
        for (int what = 7; what <= 8; what++) {
            same("of a REPLY, " + what, x.letter(0, what), 0);
        }
        x.load(1, true);
        x.greet(2, 1);
        x.deliver(1);
        for (int what = 6; what <= 8; what++) {
            same("of a COOKIE, " + what, x.letter(1, what), 0);
        }
    }

    private static void looksAtEnds() {
        Burrowline x = busy();
        endsOnly("address", x, x::address);
        endsOnly("route", x, end -> x.route(end, 5));
        endsOnly("route of a wrong one", x, end -> x.route(end, 256));
        endsOnly("outs", x, x::outs);
        endsOnly("out", x, end -> x.out(end, 0, 0));
        endsOnly("out of a wrong part", x, end -> x.out(end, 0, 4));
    }

    private static void looksAtPairs() {
        Burrowline x = busy();
        pairsOnly("known", x, x::known);
        pairsOnly("isUsable", x, x::isUsable);
        pairsOnly("flight", x, x::flight);
        pairsOnly("waiting", x, x::waiting);
        pairsOnly("cookie", x, x::cookie);
        pairsOnly("stamp sent", x, (end, peer) -> x.stamp(end, peer, true));
        pairsOnly("stamp taken", x, (end, peer) -> x.stamp(end, peer, false));
        pairsOnly("session", x, (end, peer) -> x.session(end, peer, 1, 0));
        pairsOnly("session of a wrong kind", x, (end, peer) -> x.session(end, peer, 3, 0));
        pairsOnly("session of a wrong part", x, (end, peer) -> x.session(end, peer, 1, 9));
        pairsOnly("session that is not there", x, (end, peer) -> x.session(end, peer, 2, 0));
    }

    private static void routeInner() {
        Burrowline x = busy();
        same("0", x.route(1, 0), 0);
        same("255", x.route(1, 255), -1);
        for (int inner : besides(0, 255)) {
            noArgument("" + inner, x, () -> x.route(1, inner));
        }
    }

    private static void sessionNumbers() {
        Burrowline x = met(3);
        int key = replyKey(0, 1, 1, 2);
        session("the first to the last part", x, 0, 1, 1, 1, 2, 3, 1, -1, 0, mix(5, key, 0), mix(5, key, 1), 1);
        session("and of the other side", x, 1, 0, 1, 2, 1, 3, 0, 0, 1, mix(5, key, 1), mix(5, key, 0), 0);
        for (int number : besides(0, 2)) {
            noArgument("which " + number, x, () -> x.session(0, 1, number, 0));
        }
        for (int number : besides(0, 8)) {
            noArgument("what " + number, x, () -> x.session(0, 1, 1, number));
        }
    }

    private static void sessionNone() {
        Burrowline x = met();
        for (int what = 0; what < 9; what++) {
            int asked = what;
            noElement("PREVIOUS", x, () -> x.session(0, 1, 0, asked));
            noElement("NEXT", x, () -> x.session(0, 1, 2, asked));
            noElement("CURRENT of another", x, () -> x.session(0, 2, 1, asked));
        }
        noArgument("a wrong part of none", x, () -> x.session(0, 1, 0, 9));
        noArgument("a wrong kind of none", x, () -> x.session(0, 2, 3, 0));
    }

    private static void flightNone() {
        Burrowline x = new Burrowline();
        same("none", x.flight(0, 1), -1);
        x.greet(0, 1);
        same("one", x.flight(0, 1), 1);
        same("the other way", x.flight(1, 0), -1);
        same("to another", x.flight(0, 2), -1);
        x.pass(60);
        same("an old one", x.flight(0, 1), 1);
        x.lose(0);
        same("a lost one", x.flight(0, 1), 1);
    }

    private static void waitingNone() {
        Burrowline x = routed();
        same("none", x.waiting(0, 1), 0);
        x.send(0, 5, 200, 1);
        same("one", x.waiting(0, 1), 1);
        same("the other way", x.waiting(1, 0), 0);
    }

    private static void cookieNone() {
        Burrowline x = new Burrowline();
        x.load(1, true);
        same("none", x.cookie(0, 1), -1);
        x.greet(0, 1);
        x.deliver(0);
        same("none before it came", x.cookie(0, 1), -1);
        x.deliver(0);
        same("at 0", x.cookie(0, 1), cookieOf(1, 0, 10));
        same("the other way", x.cookie(1, 0), -1);
        x.pass(59);
        same("at 59", x.cookie(0, 1), cookieOf(1, 0, 10));
        x.pass(1);
        same("at 60", x.cookie(0, 1), -1);
    }

    private static void stamps() {
        Burrowline x = new Burrowline();
        x.pass(50);
        x.greet(0, 1);
        same("sent", x.stamp(0, 1, true), 200);
        same("not taken yet", x.stamp(1, 0, false), 0);
        x.deliver(0);
        same("taken", x.stamp(1, 0, false), 200);
        same("not sent", x.stamp(1, 0, true), 0);
        same("nor taken", x.stamp(0, 1, false), 0);
    }

    private static void outPlaces() {
        Burrowline x = busy();
        same("one", x.outs(1), 1);
        same("SOURCE", x.out(1, 0, 1), 5);
        same("LOAD", x.out(1, 0, 3), 77);
        for (int place : besides(0, 0)) {
            noIndex("the place " + place, x, () -> x.out(1, place, 0));
            noIndex("the place " + place + " of a wrong part", x, () -> x.out(1, place, 4));
        }
        noIndex("the first of none", x, () -> x.out(0, 0, 0));
        for (int what : besides(0, 3)) {
            noArgument("what " + what, x, () -> x.out(1, 0, what));
        }
    }

    private static void dropsCodes() {
        Burrowline x = busy();
        long sum = 0;
        for (int code = -7; code <= 3; code++) {
            sum += x.drops(code);
        }
        same("all that was delivered", sum, 7);
        for (int code : besides(-7, 3)) {
            noArgument("the code " + code, x, () -> x.drops(code));
        }
    }

    // ---------------------------------------------------------------- sums

    private static void shareOfNone() {
        Burrowline x = routed();
        is("none delivered", x.share() == 0f);
        x.greet(0, 1);
        x.lose(0);
        is("one lost in the net", x.share() == 0f);
    }

    private static void shareOfAll() {
        Burrowline x = met();
        is("none OUT", x.share() == 0f);
        x.send(0, 5, 200, 1);
        x.deliver(0);
        is("1 of 4", x.share() == 0.25f);
        x.send(0, 200, 200, 1);
        x.deliver(0);
        is("1 of 5, FOREIGN is none", x.share() == 1f / 5f);
        x.send(0, 5, 200, 1);
        x.move(1, 21);
        x.deliver(0);
        is("1 of 6, one LOST", x.share() == 1f / 6f);
        x.move(1, 20);
        x.allow(0, 1, 0, 0);
        x.send(0, 6, 6, 1);
        x.deliver(0);
        is("2 of 7", x.share() == 2f / 7f);
    }

    private static void meanOfNone() {
        Burrowline x = routed();
        is("none", x.meanAge() == 0.0);
        x.greet(0, 1);
        x.deliver(0);
        x.pass(9);
        is("NEXT alone", x.meanAge() == 0.0);
        x.deliver(0);
        is("one of 0", x.meanAge() == 0.0);
        x.pass(3);
        is("one of 3", x.meanAge() == 3.0);
        x.deliver(0);
        is("of 3 and 12", x.meanAge() == 7.5);
        x.greet(0, 1);
        x.deliver(0);
        x.deliver(0);
        is("of 0 and 12, not PREVIOUS", x.meanAge() == 6.0);
        x.pass(60);
        is("of 60 and 72", x.meanAge() == 66.0);
        x.greet(1, 2);
        x.deliver(1);
        x.deliver(1);
        is("of three", x.meanAge() == 132.0 / 3.0);
    }

    private static void soundAlways() {
        is("at first", new Burrowline().isSound());
        Burrowline x = busy();
        is("in a house where much goes on", x.isSound());
        for (int i = 0; i < 40 && x.letters() > 0; i++) {
            x.deliver(0);
            is("when letters come", x.isSound());
        }
        Burrowline y = sealed(40);
        is("of 40 letters sealed", y.isSound());
        for (int kind = 0; kind < 2; kind++) {
            y.greet(kind, 1 - kind);
            for (int i = 1; i <= 20; i++) {
                y.turn(kind, 3 + kind, 500);
            }
            is("of letters TURNED far", y.isSound());
        }
    }

    private static void checksumWraps() {
        // Told by hand: 31 for NOW 0, then the ends, the pairs, no packets, no letters, eleven codes.
        long d = 31 * 31;
        for (int end = 0; end < 3; end++) {
            d = ((31 * d + 10 + 10 * end) * 31 + 0) * 31 + 0;
        }
        for (int end = 0; end < 3; end++) {
            for (int peer = 0; peer < 3; peer++) {
                if (peer != end) {
                    d = 31 * d + 10 + 10 * peer;
                    for (int v : new int[] {-1, 0, 0, -1, -1, -1}) {
                        d = 31 * d + v;
                    }
                }
            }
        }
        for (int i = 0; i < 3 + 11; i++) {
            d = 31 * d;
        }
        same("of a new one", new Burrowline().checksum(), d);
    }

    private static void checksumOfAll() {
        Burrowline x = busy();
        same("of a busy house", x.checksum(), sumOf(x, new int[] {1, 1, 1}, new int[] {0, 0, 1}));
        fill(x, 60);
        same("of a full net", x.checksum(), sumOf(x, new int[] {1, 1, 1}, new int[] {0, 0, 1}));
        x = fullTable();
        x.load(0, true);
        x.load(2, false);
        same("of a full table", x.checksum(), sumOf(x, new int[] {1, 1, 8}, new int[] {1, 0, 0}));
        x = met();
        x.greet(0, 1);
        x.deliver(0);
        x.deliver(0);
        x.send(0, 5, 200, 4321);
        x.deliver(1);
        x.greet(0, 1);
        x.deliver(1);
        same("of all three sessions", x.checksum(), sumOf(x, new int[] {1, 1, 0}, new int[3]));
    }

    private static void checksumTellsNot() {
        Burrowline x = new Burrowline();
        long sum = x.checksum();
        x.allow(0, 1, 0, 0);
        long one = x.checksum();
        x.allow(0, 2, 0, 0);
        same("to whom a ROUTE goes", x.checksum(), one);
        x.forbid(0, 0, 0);
        same("what was before", x.checksum(), sum);
        x.greet(0, 1);
        x.turn(0, 3, 5);
        x.turn(0, 3, -5);
        Burrowline y = new Burrowline();
        y.greet(0, 1);
        same("which FIELD was TURNED", x.checksum(), y.checksum());
    }

    private static void deeds() {
        sentence("Promise 2: Throws IllegalArgumentException if ticks is not 1 to 60", EdgeCallsTest::passTicks);
        sentence("Promise 3: Throws IllegalArgumentException if address is not 1 to 99, or another end has it",
            EdgeCallsTest::moveAddresses);
        sentence("Promise 3: Throws IndexOutOfBoundsException if there is no such end", EdgeCallsTest::moveFirst);
        sentence("Promise 4: Throws IndexOutOfBoundsException if there is no such end", EdgeCallsTest::loadEnds);
        sentence("Promise 5: or prefix or bits is out of its range", EdgeCallsTest::allowNumbers);
        sentence("Promise 5: in place of one with the same PREFIX and BITS", EdgeCallsTest::allowInPlace);
        sentence("Promise 5: Throws IllegalStateException if there are 8, and none is replaced", EdgeCallsTest::allowEight);
        sentence("8: If several exceptions apply to a call, the one that is listed first is thrown",
            EdgeCallsTest::allowFirst);
        sentence("Promise 6: Throws IllegalArgumentException if prefix or bits is out of its range",
            EdgeCallsTest::forbidNumbers);
        sentence("Promise 6: Throws NoSuchElementException if there is no such ROUTE", EdgeCallsTest::forbidNone);
        sentence("Promise 6: Throws IndexOutOfBoundsException if there is no such end", EdgeCallsTest::forbidFirst);
        sentence("Promise 7: Throws IllegalArgumentException if source or dest is not 0 to 255, or load not 0 to 9999",
            EdgeCallsTest::sendNumbers);
        sentence("Promise 7: Throws IndexOutOfBoundsException if there is no such end", EdgeCallsTest::sendFirst);
        sentence("Promise 8: Throws IllegalArgumentException if peer is the end itself", EdgeCallsTest::keepPairs);
        sentence("Promise 9: Throws IllegalArgumentException if peer is the end itself", EdgeCallsTest::greetPairs);
        sentence("Promise 9: Throws IllegalStateException if a FRESH one is in FLIGHT to that peer",
            EdgeCallsTest::greetFresh);
    }

    private static void letters() {
        sentence("8: An IndexOutOfBoundsException is thrown for an end, a letter, a place or a number of a thing that there "
            + "is not", EdgeCallsTest::noLetter);
        sentence("Promise 11: Returns how many are left", EdgeCallsTest::lose);
        sentence("Promise 12: A double of a letter comes behind all others", EdgeCallsTest::twice);
        sentence("Promise 12: Throws IllegalStateException if there are 60", EdgeCallsTest::twiceOf60);
        sentence("Promise 13: -500 to 500, not 0", EdgeCallsTest::turnNumbers);
        sentence("Promise 13: Throws IllegalStateException if another FIELD of it was TURNED before",
            EdgeCallsTest::turnFirst);
        sentence("Promise 14: Throws IllegalArgumentException if address is not 1 to 99", EdgeCallsTest::reroute);
        sentence("Promise 15: A letter goes behind all others", EdgeCallsTest::later);
    }

    private static void looks() {
        sentence("Promise 17: Returns how many letters lie in the net", EdgeCallsTest::nowAndLetters);
        sentence("Promise 18: Throws IllegalArgumentException if what is not 0 to 8", EdgeCallsTest::letterWhats);
        sentence("Promise 18: 0 for a FIELD that its KIND has not", EdgeCallsTest::letterFieldsThatAreNot);
        sentence("Promise 20: Throws IndexOutOfBoundsException if there is no such end", EdgeCallsTest::looksAtEnds);
        sentence("Promise 21: Throws IndexOutOfBoundsException if there is no such end or peer",
            EdgeCallsTest::looksAtPairs);
        sentence("Promise 22: Throws IllegalArgumentException if inner is not 0 to 255", EdgeCallsTest::routeInner);
        sentence("Promise 23: which is not 0 to 2, or what is not 0 to 8", EdgeCallsTest::sessionNumbers);
        sentence("Promise 23: Throws NoSuchElementException if there is no such session", EdgeCallsTest::sessionNone);
        sentence("Promise 25: Returns the INDEX; NONE without", EdgeCallsTest::flightNone);
        sentence("Promise 26: Returns how many packets WAIT", EdgeCallsTest::waitingNone);
        sentence("Promise 27: Returns the COOKIE; NONE without", EdgeCallsTest::cookieNone);
        sentence("Promise 28: whether the latest one sent is asked for, otherwise the greatest one taken",
            EdgeCallsTest::stamps);
        sentence("Promise 30: Throws IndexOutOfBoundsException if there is no such end or place", EdgeCallsTest::outPlaces);
        sentence("Promise 31: Throws IllegalArgumentException if code is not -7 to 3", EdgeCallsTest::dropsCodes);
    }

    public static void main(String[] args) {
        deeds();
        letters();
        looks();
        sentence("Promise 35: 0 if none was delivered", EdgeCallsTest::shareOfNone);
        sentence("Promise 35: Returns the number of OUT divided by the number of letters delivered",
            EdgeCallsTest::shareOfAll);
        sentence("Promise 36: 0 if there is none", EdgeCallsTest::meanOfNone);
        sentence("Promise 37: it is always so", EdgeCallsTest::soundAlways);
        sentence("Promise 38: as a 64-bit integer that wraps around", EdgeCallsTest::checksumWraps);
        sentence("Promise 38: Returns a sum over all", EdgeCallsTest::checksumOfAll);
        sentence("Promise 38: for each v in this order", EdgeCallsTest::checksumTellsNot);
        finish();
    }
}
