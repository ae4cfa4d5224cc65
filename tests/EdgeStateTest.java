/** The edges of what ends have and of the net: Terms 2 to 4, sentence by sentence. */
public final class EdgeStateTest extends Checks {
    // ---------------------------------------------------------------- 2. Ends

    private static void secrets() {
        for (int a = 0; a < 3; a++) {
            for (int b = 0; b < 3; b++) {
                if (a != b) {
                    Burrowline x = new Burrowline();
                    x.greet(a, b);
                    same("TAG of " + a + " to " + b, x.letter(0, 7), helloTag(a, b, 1, 1));
                    x.deliver(0);
                    same("TAG of the REPLY", x.letter(0, 6), seal(replyKey(a, b, 1, 2), 2, 2, 1, publicOfNumber(2)));
                    same("which is taken", x.deliver(0), 3);
                }
            }
        }
    }

    private static void firstAddresses() {
        Burrowline x = new Burrowline();
        for (int end = 0; end < 3; end++) {
            same("of " + end, x.address(end), 10 + 10 * end);
            for (int peer = 0; peer < 3; peer++) {
                if (peer != end) {
                    same("KNOWN to " + end, x.known(end, peer), 10 + 10 * peer);
                }
            }
        }
    }

    private static void firstLoads() {
        for (int end = 0; end < 3; end++) {
            isNot("the end " + end, new Burrowline().load(end, true));
        }
    }

    private static void noRouteAtFirst() {
        Burrowline x = new Burrowline();
        for (int end = 0; end < 3; end++) {
            for (int inner = 0; inner < 256; inner++) {
                same("of " + inner, x.route(end, inner), -1);
            }
            same("the first one", x.allow(end, (end + 1) % 3, 0, 8), 1);
        }
    }

    private static void eightRoutes() {
        Burrowline x = new Burrowline();
        for (int i = 1; i <= 8; i++) {
            same("the one of number " + i, x.allow(0, 1, i, 8), i);
        }
        noState("a ninth", x, () -> x.allow(0, 1, 9, 8));
        same("each table for itself", x.allow(1, 0, 9, 8), 1);
        for (int i = 1; i <= 8; i++) {
            same("all are there", x.route(0, i), 1);
        }
        x.forbid(0, 3, 8);
        same("room again", x.allow(0, 2, 9, 8), 8);
        noState("and full again", x, () -> x.allow(0, 1, 3, 8));
    }

    private static void highestBitsCount() {
        for (int bits = 0; bits <= 8; bits++) {
            Burrowline x = new Burrowline();
            int width = 256 >> bits;
            int from = 170 / width * width;
            same("of a PREFIX with its low bits", x.allow(0, 1, from + width - 1, bits), 1);
            same("the same with none", x.allow(0, 2, from, bits), 1);
            for (int inner = 0; inner < 256; inner++) {
                boolean isIn = inner >= from && inner < from + width;
                same(bits + " BITS of " + inner, x.route(0, inner), isIn ? 2 : -1);
            }
            same("gone with its low bits", x.forbid(0, from + width - 1, bits), 0);
        }
    }

    private static void sameBitsOfOtherLengths() {
        Burrowline x = new Burrowline();
        for (int bits = 0; bits < 8; bits++) {
            same("0 with " + bits + " BITS", x.allow(0, 1 + bits % 2, 0, bits), bits + 1);
        }
        for (int bits = 0; bits < 8; bits++) {
            int last = (256 >> bits) - 1;
            same("the last with " + bits + " BITS", x.route(0, last), 1 + bits % 2);
            same("the first with " + bits + " BITS alone", x.route(0, last / 2 + 1), bits < 7 ? 1 + bits % 2 : 2);
        }
    }

    private static void mostBitsFirst() {
        for (int[] order : new int[][] {{0, 7, 8}, {8, 7, 0}, {7, 8, 0}, {7, 0, 8}}) {
            Burrowline x = new Burrowline();
            for (int bits : order) {
                x.allow(2, bits == 7 ? 1 : 0, 254, bits);
            }
            same("7 BITS before 0", x.route(2, 255), 1);
            same("8 BITS before 7", x.route(2, 254), 0);
            same("0 BITS for the others", x.route(2, 253), 0);
            x.forbid(2, 254, 8);
            same("7 when 8 are gone", x.route(2, 254), 1);
            x.forbid(2, 0, 0);
            same("none when 0 are gone", x.route(2, 253), -1);
        }
    }

    // ---------------------------------------------------------------- 3. Sessions

    private static void threeSessions() {
        Burrowline x = routed();
        for (int i = 0; i < 4; i++) {
            same("the HELLO", x.greet(0, 1), 2 * i + 1);
            x.deliver(0);
            x.deliver(0);
            x.deliver(0);
        }
        x.greet(0, 1);
        x.deliver(0);
        same("the last one is CURRENT", x.session(0, 1, 1, 0), 7);
        same("the one before is PREVIOUS", x.session(0, 1, 0, 0), 5);
        isNot("who began has no NEXT", hasSession(x, 0, 1, 2));
        same("PREVIOUS of the other side", x.session(1, 0, 0, 0), 6);
        same("CURRENT of the other side", x.session(1, 0, 1, 0), 8);
        same("NEXT of the other side", x.session(1, 0, 2, 0), 10);
    }

    private static void threeSessionsTake() {
        Burrowline x = routed();
        for (int i = 0; i < 3; i++) {
            x.greet(0, 1);
            x.deliver(i);
            x.deliver(i);
            x.deliver(i);
            x.send(1, 200, 5, i);
        }
        same("a letter for one before PREVIOUS", x.deliver(0), -1);
        same("a letter for PREVIOUS", x.deliver(0), 1);
        same("a letter for CURRENT", x.deliver(0), 1);
        same("nothing changes by that", x.session(0, 1, 1, 0), 5);
        same("both stay", x.session(0, 1, 0, 0), 3);
    }

    private static void noSessionAtFirst() {
        Burrowline x = new Burrowline();
        for (int end = 0; end < 3; end++) {
            for (int which = 0; which < 3; which++) {
                isNot("the end " + end + ", " + which, hasSession(x, end, (end + 1) % 3, which));
                isNot("the end " + end + ", " + which, hasSession(x, end, (end + 2) % 3, which));
            }
        }
    }

    private static void ages() {
        Burrowline x = routed();
        x.greet(0, 1);
        x.pass(7);
        x.deliver(0);
        same("NEXT is made when the HELLO is taken", x.session(1, 0, 2, 2), 0);
        x.pass(3);
        same("its age", x.session(1, 0, 2, 2), 3);
        x.deliver(0);
        same("CURRENT is made when the REPLY is taken", x.session(0, 1, 1, 2), 0);
        x.pass(1);
        x.deliver(0);
        same("NEXT keeps its age as CURRENT", x.session(1, 0, 1, 2), 4);
        x.pass(60);
        same("an age has no end", x.session(0, 1, 1, 2), 61);
    }

    private static void counters() {
        Burrowline x = offered();
        same("none is sealed", x.session(1, 0, 2, 3), 0);
        x.deliver(0);
        for (int counter = 0; counter < 40; counter++) {
            same("COUNTER", x.letter(counter, 4), counter);
            same("sealed", x.session(0, 1, 1, 3), counter + 1);
            if (counter < 39) {
                x.keep(0, 1);
            }
        }
    }

    private static void usableIfThere() {
        Burrowline x = routed();
        isNot("none", x.isUsable(0, 1));
        x.greet(0, 1);
        x.deliver(0);
        isNot("NEXT alone", x.isUsable(1, 0));
        x.deliver(0);
        is("CURRENT by a REPLY", x.isUsable(0, 1));
        isNot("NEXT alone still", x.isUsable(1, 0));
        x.deliver(0);
        is("CURRENT by DATA", x.isUsable(1, 0));
        isNot("another end", x.isUsable(2, 0));
        isNot("for another peer", x.isUsable(0, 2));
    }

    private static void usableBelow30() {
        Burrowline x = met(29);
        is("at 29", x.isUsable(0, 1));
        is("at 29, of the other side", x.isUsable(1, 0));
        x.pass(1);
        isNot("at 30", x.isUsable(0, 1));
        isNot("at 30, of the other side", x.isUsable(1, 0));
        Burrowline y = offered();
        y.pass(29);
        y.deliver(0);
        y.deliver(0);
        is("NEXT that became CURRENT at 29", y.isUsable(1, 0));
        y.pass(1);
        isNot("and is 30", y.isUsable(1, 0));
        is("the other side is 1", y.isUsable(0, 1));
    }

    private static void usableBelow40() {
        Burrowline x = sealed(39);
        is("39 sealed", x.isUsable(0, 1));
        x.keep(0, 1);
        isNot("40 sealed", x.isUsable(0, 1));
        is("each side for itself", x.isUsable(1, 0));
    }

    private static void freshBelow5() {
        Burrowline x = new Burrowline();
        x.pass(8);
        x.greet(0, 1);
        noState("at 0", x, () -> x.greet(0, 1));
        x.pass(4);
        noState("at 4", x, () -> x.greet(0, 1));
        x.pass(1);
        same("at 5", x.greet(0, 1), 2);
        noState("the new one", x, () -> x.greet(0, 1));
    }

    private static void firstStamps() {
        Burrowline x = new Burrowline();
        for (int end = 0; end < 3; end++) {
            for (int other = 1; other < 3; other++) {
                same("taken", x.stamp(end, (end + other) % 3, false), 0);
                same("sent", x.stamp(end, (end + other) % 3, true), 0);
            }
        }
        x.greet(0, 1);
        same("the first STAMP is 1", x.letter(0, 6), 1);
        same("and is above 0", x.deliver(0), 3);
    }

    private static void fourWait() {
        Burrowline x = routed();
        for (int load = 0; load < 4; load++) {
            x.send(0, 5, 200, load);
            same("WAIT", x.waiting(0, 1), load + 1);
        }
        x.send(0, 5, 200, 4);
        same("a fifth", x.waiting(0, 1), 4);
        x.send(0, 5, 200, 5);
        same("a sixth", x.waiting(0, 1), 4);
        x.deliver(0);
        x.deliver(0);
        for (int i = 0; i < 4; i++) {
            same("the latest four, in order", x.letter(i, 7), i + 2);
        }
        same("no more", x.letters(), 4);
    }

    private static void waitForEachPeer() {
        Burrowline x = new Burrowline();
        x.allow(0, 1, 0, 1);
        x.allow(0, 2, 128, 1);
        for (int i = 0; i < 5; i++) {
            x.send(0, 9, 0, i);
            x.send(0, 9, 255, i);
        }
        same("for 1", x.waiting(0, 1), 4);
        same("for 2", x.waiting(0, 2), 4);
    }

    private static void numbers() {
        Burrowline x = routed();
        same("the first HELLO", x.greet(0, 1), 1);
        same("of another end", x.greet(2, 1), 2);
        x.deliver(0);
        same("a REPLY", x.letter(1, 3), 3);
        x.deliver(1);
        same("DATA takes none", x.greet(1, 2), 4);
        x.load(2, true);
        x.deliver(2);
        same("a COOKIE takes none", x.greet(2, 0), 5);
        x.deliver(0);
        x.deliver(0);
        fill(x, 60);
        same("a HELLO that is gone takes one", x.greet(0, 2), 7);
        x.lose(0);
        same("so that the next is one more", x.greet(1, 0), 8);
        same("an index is no place", x.flight(0, 2), 7);
    }

    private static void secretsOfNumbers() {
        Burrowline x = new Burrowline();
        x.greet(0, 1);
        same("577 and 1", x.letter(0, 4), pow(7, 578));
        x.greet(1, 0);
        same("once around", x.letter(1, 4), pow(7, 137));
        int number = 2;
        while (number < 247) {
            x.pass(5);
            for (int pair = 0; pair < 6 && number < 247; pair++) {
                if (x.letters() == 60) {
                    x.lose(0);
                }
                number = x.greet(pair / 2, (pair / 2 + 1 + pair % 2) % 3);
            }
        }
        same("the greatest rest", x.letter(x.letters() - 1, 4), pow(7, 1018));
    }

    // ---------------------------------------------------------------- 4. The net

    private static void sixtyLetters() {
        Burrowline x = new Burrowline();
        same("none at first", x.letters(), 0);
        x.greet(0, 1);
        fill(x, 59);
        same("the 60th", x.greet(1, 2), 2);
        same("lies there", x.letters(), 60);
        same("at the place 59", x.letter(59, 3), 2);
        noIndex("no place 60", x, () -> x.letter(60, 0));
    }

    private static void aHelloIsGone() {
        Burrowline x = new Burrowline();
        x.greet(0, 1);
        fill(x, 60);
        long sum = x.checksum();
        same("greet", x.greet(1, 2), 2);
        same("60 still", x.letters(), 60);
        same("none is pushed out", x.letter(59, 3), 1);
        same("but it was sent: in FLIGHT", x.flight(1, 2), 2);
        same("its STAMP", x.stamp(1, 2, true), 1);
        noState("it is FRESH", x, () -> x.greet(1, 2));
        isNot("the sum tells it", sum == x.checksum());
    }

    private static void aHelloOfSendIsGone() {
        Burrowline x = routed();
        x.greet(2, 1);
        fill(x, 60);
        same("send", x.send(0, 5, 200, 7), 0);
        same("60 still", x.letters(), 60);
        same("it WAITS", x.waiting(0, 1), 1);
        same("the HELLO was sent", x.flight(0, 1), 2);
    }

    private static void aDataLetterIsGone() {
        Burrowline x = met();
        x.greet(2, 1);
        fill(x, 60);
        same("send", x.send(0, 5, 200, 7), 1);
        is("keep", x.keep(0, 1));
        same("60 still", x.letters(), 60);
        same("they were sealed", x.session(0, 1, 1, 3), 3);
        same("none WAITS", x.waiting(0, 1), 0);
    }

    private static void aHelloBehindDataIsGone() {
        Burrowline x = met(20);
        x.greet(2, 1);
        fill(x, 59);
        same("send", x.send(0, 5, 200, 7), 1);
        same("60 lie there", x.letters(), 60);
        same("the DATA letter is the last", x.letter(59, 2), 4);
        same("the HELLO was sent", x.flight(0, 1), 4);
    }

    private static void waitingOnesAreGone() {
        Burrowline x = routed();
        for (int load = 0; load < 4; load++) {
            x.send(0, 5, 200, load);
        }
        x.deliver(0);
        fill(x, 60);
        same("the REPLY is taken", x.deliver(0), 3);
        same("60 again", x.letters(), 60);
        same("the first of four is there", x.letter(59, 7), 0);
        same("four were sealed", x.session(0, 1, 1, 3), 4);
        same("none WAITS", x.waiting(0, 1), 0);
    }

    private static void answersHaveRoom() {
        Burrowline x = new Burrowline();
        x.load(1, true);
        x.greet(0, 1);
        fill(x, 60);
        same("ASKED", x.deliver(0), -7);
        same("the COOKIE has the place of the HELLO", x.letter(59, 2), 3);
        x.load(1, false);
        same("taken", x.deliver(0), 3);
        same("the REPLY, too", x.letter(59, 2), 2);
        same("60 still", x.letters(), 60);
    }

    private static void fromAndTo() {
        Burrowline x = met();
        x.move(0, 77);
        x.move(1, 88);
        x.keep(0, 1);
        letter("DATA of one that moved", x, 0, 77, 20, 4);
        x.greet(0, 1);
        letter("a HELLO of one that moved", x, 1, 77, 20, 1);
        x.move(1, 20);
        x.deliver(0);
        x.keep(1, 0);
        letter("DATA to one that moved and told so", x, 1, 20, 77, 4);
        x.keep(0, 1);
        x.move(0, 10);
        letter("a letter that lies there stays FROM", x, 2, 77, 20, 4);
    }

    private static void anEmptyOne() {
        Burrowline x = offered();
        x.deliver(0);
        letter("by a REPLY", x, 0, 10, 20, 4, 2, 0, -1, -1, -1);
        x.keep(0, 1);
        letter("by keep", x, 1, 10, 20, 4, 2, 1, -1, -1, -1);
        same("its TAG", x.letter(1, 8), seal(x.session(0, 1, 1, 6), 4, 2, 1, -1, -1, -1));
    }

    private static void theGreaterStamp() {
        Burrowline x = new Burrowline();
        x.greet(0, 1);
        same("1 more than 0, at 0", x.stamp(0, 1, true), 1);
        for (int i = 2; i <= 3; i++) {
            x.deliver(0);
            x.deliver(0);
            x.lose(0);
            x.greet(0, 1);
            same("1 more, at 0", x.stamp(0, 1, true), i);
        }
        x.deliver(0);
        x.deliver(0);
        x.lose(0);
        x.pass(1);
        x.greet(0, 1);
        same("both are 4", x.stamp(0, 1, true), 4);
        x.deliver(0);
        x.deliver(0);
        x.lose(0);
        x.greet(0, 1);
        same("1 more than 4, at 1", x.stamp(0, 1, true), 5);
        x.deliver(0);
        x.deliver(0);
        x.lose(0);
        x.pass(1);
        x.greet(0, 1);
        same("8 at 2, not 6", x.stamp(0, 1, true), 8);
        same("in its letter", x.letter(0, 6), 8);
        same("each peer for itself", x.stamp(0, 2, true), 0);
        Burrowline y = new Burrowline();
        y.greet(0, 1);
        y.greet(0, 2);
        same("1 more than the one to that peer", y.letter(1, 6), 1);
    }

    private static void proofBelow60() {
        Burrowline x = asked();
        int c = x.cookie(0, 1);
        x.pass(59);
        x.greet(0, 1);
        same("at 59", x.letter(0, 8), mix(2, c, x.letter(0, 7)));
        x.lose(0);
        Burrowline y = asked();
        y.pass(60);
        y.greet(0, 1);
        same("at 60", y.letter(0, 8), 0);
        Burrowline z = asked();
        z.greet(0, 2);
        same("the COOKIE of another peer", z.letter(0, 8), 0);
        Burrowline u = new Burrowline();
        u.greet(0, 1);
        same("without a COOKIE", u.letter(0, 8), 0);
    }

    /** The end 0 has kept a COOKIE of 1 just now; no letters. */
    private static Burrowline asked() {
        Burrowline x = new Burrowline();
        x.load(1, true);
        x.pass(3);
        x.greet(0, 1);
        x.deliver(0);
        same("a COOKIE is taken", x.deliver(0), 3);
        return x;
    }

    private static void inPlaceOfAnElderOne() {
        Burrowline x = new Burrowline();
        x.greet(0, 1);
        x.pass(5);
        x.greet(0, 1);
        same("the younger one", x.flight(0, 1), 2);
        x.deliver(0);
        same("the REPLY to the elder one", x.deliver(1), -1);
        x.deliver(0);
        same("the REPLY to the younger one", x.deliver(0), 3);
        same("none is in FLIGHT", x.flight(0, 1), -1);
    }

    private static void minutesOfCookies() {
        for (int now : new int[] {0, 59, 60, 119, 120}) {
            Burrowline x = new Burrowline();
            x.load(1, true);
            for (int left = now; left > 0; left -= 60) {
                x.pass(Math.min(left, 60));
            }
            x.greet(0, 1);
            x.deliver(0);
            same("at " + now, x.letter(0, 4), cookieOf(1, now / 60, 10));
        }
    }

    private static void replyAndCookieFields() {
        Burrowline x = offered();
        letter("a REPLY", x, 0, 20, 10, 2, 2, 1, publicOfNumber(2),
            seal(replyKey(0, 1, 1, 2), 2, 2, 1, publicOfNumber(2)), 0, 0);
        x.load(1, true);
        x.greet(2, 1);
        x.deliver(1);
        int c = cookieOf(1, 0, 30);
        int key = mix(3, publicOfEnd(1), helloTag(2, 1, 3, 1));
        letter("a COOKIE", x, 1, 20, 30, 3, 3, c, seal(key, 3, 3, c), 0, 0, 0);
    }

    // ---------------------------------------------------------------- an object's calls

    private static void fiveHundredTwelveCalls() {
        Burrowline x = routed();
        int calls = 2;
        int outs = 0;
        while (calls <= 512 - 4) {
            x.greet(0, 1);
            x.deliver(0);
            x.deliver(0);
            x.deliver(0);
            calls += 4;
            // With the EMPTY letter 29 are sealed, so that no HELLO comes between.
            for (int i = 0; i < 28 && calls <= 512 - 2; i++) {
                x.send(0, outs % 128, 255, outs);
                x.deliver(0);
                calls += 2;
                outs++;
            }
        }
        same("calls", calls, 512);
        same("packets that came OUT", x.outs(1), outs);
        for (int i = 0; i < outs; i++) {
            same("SOURCE", x.out(1, i, 1), i % 128);
            same("LOAD", x.out(1, i, 3), i);
        }
    }

    private static void ends() {
        sentence("2: The SECRET of the end e is 211 + 307 e", EdgeStateTest::secrets);
        sentence("2: An end has an ADDRESS, at first 10, 20 and 30, and for each peer a KNOWN address, at first that peer's",
            EdgeStateTest::firstAddresses);
        sentence("2: It is loaded or not, at first not", EdgeStateTest::firstLoads);
        sentence("2: none at first", EdgeStateTest::noRouteAtFirst);
        sentence("2: It has a TABLE of at most 8 ROUTES", EdgeStateTest::eightRoutes);
        sentence("2: how many BITS of it count (0 to 8, the highest ones; the other bits of a PREFIX are 0)",
            EdgeStateTest::highestBitsCount);
        sentence("2: how many BITS of it count (0 to 8, the highest ones; the other bits of a PREFIX are 0)",
            EdgeStateTest::sameBitsOfOtherLengths);
        sentence("2: to the peer of the ROUTE with the most BITS whose BITS are those of the address, or to none",
            EdgeStateTest::mostBitsFirst);
    }

    private static void sessions() {
        sentence("3: An end has for each peer at most three SESSIONS", EdgeStateTest::threeSessions);
        sentence("3: An end has for each peer at most three SESSIONS", EdgeStateTest::threeSessionsTake);
        sentence("3: PREVIOUS, CURRENT and NEXT, none at first", EdgeStateTest::noSessionAtFirst);
        sentence("3: the time at which it was made (its age is NOW less that)", EdgeStateTest::ages);
        sentence("3: the number of letters it sealed (the next COUNTER, from 0 on)", EdgeStateTest::counters);
        sentence("3: CURRENT is USABLE if it is there", EdgeStateTest::usableIfThere);
        sentence("3: its age is below 30", EdgeStateTest::usableBelow30);
        sentence("3: and it sealed fewer than 40 letters", EdgeStateTest::usableBelow40);
        sentence("3: it is FRESH below the age of 5", EdgeStateTest::freshBelow5);
        sentence("3: the greatest STAMP that it took (at first 0) and the latest that it sent (at first 0)",
            EdgeStateTest::firstStamps);
        sentence("3: and at most 4 WAITING packets", EdgeStateTest::fourWait);
        sentence("3: and at most 4 WAITING packets", EdgeStateTest::waitForEachPeer);
        sentence("3: For HELLOS and REPLIES a number n counts through the house, from 1 on", EdgeStateTest::numbers);
        sentence("3: its secret is 1 and the rest of 577 n by 1018", EdgeStateTest::secretsOfNumbers);
    }

    private static void net() {
        sentence("4: LETTERS lie in a row, from 0 on, at most 60", EdgeStateTest::sixtyLetters);
        String gone = "4: a letter that is sent while there are 60 is gone at once";
        sentence(gone, EdgeStateTest::aHelloIsGone);
        sentence(gone, EdgeStateTest::aHelloOfSendIsGone);
        sentence(gone, EdgeStateTest::aDataLetterIsGone);
        sentence(gone, EdgeStateTest::aHelloBehindDataIsGone);
        sentence(gone, EdgeStateTest::waitingOnesAreGone);
        sentence(gone, EdgeStateTest::answersHaveRoom);
        sentence("4: A letter is FROM the address that its end has, TO an address (that told KNOWN to it)",
            EdgeStateTest::fromAndTo);
        sentence("4: in an EMPTY one all three are -1", EdgeStateTest::anEmptyOne);
        sentence("4: the greater one of two: 4 times NOW, and 1 more than the latest one sent to b",
            EdgeStateTest::theGreaterStamp);
        sentence("4: if a COOKIE c of b is kept that came less than 60 ago, otherwise 0", EdgeStateTest::proofBelow60);
        sentence("4: It is in FLIGHT then, in place of an elder one", EdgeStateTest::inPlaceOfAnElderOne);
        sentence("4: the quotient of NOW by 60", EdgeStateTest::minutesOfCookies);
        sentence("4: COOKIE (kind 3) of b to a HELLO", EdgeStateTest::replyAndCookieFields);
    }

    public static void main(String[] args) {
        ends();
        sessions();
        net();
        sentence("An object is used for at most 512 calls after it has been made",
            EdgeStateTest::fiveHundredTwelveCalls);
        finish();
    }
}
