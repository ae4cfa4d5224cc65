/** The promises of the document one by one, as they are used. */
public final class PromiseTest extends Checks {
    private static void promise1New() {
        same("NONE", Burrowline.NONE, -1);
        Burrowline x = new Burrowline();
        for (int e = 0; e < 3; e++) {
            same("first address", x.address(e), 10 + 10 * e);
            same("first outs", x.outs(e), 0);
            for (int i = 0; i < 256; i++) {
                same("first route", x.route(e, i), -1);
            }
            for (int p = 0; p < 3; p++) {
                if (p != e) {
                    same("first known", x.known(e, p), 10 + 10 * p);
                    same("first flight", x.flight(e, p), -1);
                    same("first waiting", x.waiting(e, p), 0);
                    same("first cookie", x.cookie(e, p), -1);
                    same("first stamp sent", x.stamp(e, p, true), 0);
                    same("first stamp taken", x.stamp(e, p, false), 0);
                    isNot("first usable", x.isUsable(e, p));
                    for (int w = 0; w < 3; w++) {
                        isNot("a session at first", hasSession(x, e, p, w));
                    }
                }
            }
            isNot("loaded at first", x.load(e, false));
        }
        same("first letters", x.letters(), 0);
        same("first now", x.now(), 0);
        for (int c = -7; c <= 3; c++) {
            same("first drops", x.drops(c), 0);
        }
    }

    private static void promise2Pass() {
        Burrowline x = new Burrowline();
        same("pass(1)", x.pass(1), 1);
        same("pass(60)", x.pass(60), 61);
        for (int ticks : new int[] {0, -1, 61, MIN, MAX}) {
            noArgument("pass(" + ticks + ")", x, () -> x.pass(ticks));
        }
        same("now after wrong passes", x.now(), 61);
    }

    private static void promise3Move() {
        Burrowline x = new Burrowline();
        same("move(0, 99)", x.move(0, 99), 10);
        same("move(0, 1)", x.move(0, 1), 99);
        same("move to its own", x.move(0, 1), 1);
        same("move to a free one", x.move(2, 10), 30);
        same("address moved", x.address(2), 10);
        same("known is not moved", x.known(1, 2), 30);
        noArgument("move(0, 0)", x, () -> x.move(0, 0));
        noArgument("move(0, 100)", x, () -> x.move(0, 100));
        noArgument("move(0, 20)", x, () -> x.move(0, 20));
        noArgument("move(0, MIN)", x, () -> x.move(0, MIN));
        noIndex("move(-1, 5)", x, () -> x.move(-1, 5));
        noIndex("move(3, 0)", x, () -> x.move(3, 0));
        noIndex("move(MAX, 20)", x, () -> x.move(MAX, 20));
    }

    private static void promise4Load() {
        Burrowline x = new Burrowline();
        isNot("load at first", x.load(1, true));
        is("load again", x.load(1, true));
        is("unload", x.load(1, false));
        isNot("load after", x.load(1, false));
        x.load(2, true);
        isNot("load of another", x.load(0, true));
        noIndex("load(3)", x, () -> x.load(3, true));
        noIndex("load(-1)", x, () -> x.load(-1, false));
    }

    private static void promise5Allow() {
        Burrowline x = new Burrowline();
        same("allow", x.allow(0, 1, 255, 0), 1);
        same("allow the same with other low bits", x.allow(0, 2, 7, 0), 1);
        same("replaced", x.route(0, 9), 2);
        same("allow longer", x.allow(0, 1, 0, 1), 2);
        same("same prefix, other bits", x.route(0, 127), 1);
        same("outside of it", x.route(0, 128), 2);
        for (int i = 3; i <= 8; i++) {
            same("allow up to 8", x.allow(0, 1, 200 + i, 8), i);
        }
        noState("a ninth", x, () -> x.allow(0, 1, 1, 8));
        same("replaced while full", x.allow(0, 2, 203, 8), 8);
        same("replaced while full, route", x.route(0, 203), 2);
        same("another table", x.allow(1, 2, 9, 8), 1);
        noArgument("allow to itself", x, () -> x.allow(1, 1, 0, 0));
        noArgument("prefix -1", x, () -> x.allow(0, 1, -1, 0));
        noArgument("prefix 256", x, () -> x.allow(0, 1, 256, 0));
        noArgument("bits -1", x, () -> x.allow(0, 1, 0, -1));
        noArgument("bits 9", x, () -> x.allow(0, 1, 0, 9));
        noArgument("bits 9 before full", x, () -> x.allow(0, 1, 0, MAX));
        noIndex("end 3", x, () -> x.allow(3, 3, 0, 0));
        noIndex("peer 3", x, () -> x.allow(0, 3, -1, 0));
        noIndex("peer -1", x, () -> x.allow(0, -1, 0, 9));
        noIndex("end -1", x, () -> x.allow(-1, 0, 0, 0));
    }

    private static void promise6Forbid() {
        Burrowline x = new Burrowline();
        x.allow(0, 1, 64, 2);
        x.allow(0, 2, 64, 3);
        x.allow(0, 1, 0, 0);
        noElement("forbid bits that are not there", x, () -> x.forbid(0, 64, 4));
        noElement("forbid a prefix that is not there", x, () -> x.forbid(0, 128, 2));
        same("forbid with low bits", x.forbid(0, 127, 2), 2);
        same("the longer one is left", x.route(0, 64), 2);
        same("the shorter one is left", x.route(0, 96), 1);
        noElement("forbid twice", x, () -> x.forbid(0, 64, 2));
        same("forbid 0 bits", x.forbid(0, 255, 0), 1);
        same("forbid the last", x.forbid(0, 64, 3), 0);
        noElement("forbid of another end", x, () -> x.forbid(1, 64, 3));
        noArgument("prefix 256", x, () -> x.forbid(0, 256, 0));
        noArgument("prefix -1", x, () -> x.forbid(0, -1, 0));
        noArgument("bits 9", x, () -> x.forbid(0, 0, 9));
        noArgument("bits -1", x, () -> x.forbid(0, 0, -1));
        noIndex("end 3", x, () -> x.forbid(3, 256, 0));
        noIndex("end -1", x, () -> x.forbid(-1, 0, 0));
        for (int i = 0; i < 8; i++) {
            x.allow(2, 1, i, 8);
        }
        x.forbid(2, 3, 8);
        same("room again", x.allow(2, 0, 9, 8), 8);
    }

    private static void promise7Send() {
        Burrowline x = routed();
        same("to none", x.send(0, 1, 127, 3), -1);
        same("nothing is sent to none", x.letters(), 0);
        same("waits", x.send(0, 1, 128, 3), 0);
        same("waiting", x.waiting(0, 1), 1);
        same("a hello", x.flight(0, 1), 1);
        letter("the hello of a send", x, 0, 10, 20, 1, 1);
        x.pass(4);
        same("waits, fresh hello", x.send(0, 2, 128, 4), 0);
        same("no second hello", x.letters(), 1);
        x.pass(1);
        same("waits, hello not fresh", x.send(0, 2, 128, 5), 0);
        same("a second hello", x.letters(), 2);
        same("in place of the elder one", x.flight(0, 1), 2);
        same("its stamp", x.stamp(0, 1, true), 20);
        x.send(0, 2, 128, 6);
        x.send(0, 2, 128, 7);
        same("at most 4", x.waiting(0, 1), 4);
        same("the second hello is taken", x.deliver(1), 3);
        same("its reply is taken", x.deliver(1), 3);
        for (int i = 0; i < 4; i++) {
            letter("the waiting packets", x, i + 1, 10, 20, 4, 3, i, 2, 128, 4 + i);
        }
        same("none waits", x.waiting(0, 1), 0);
        noArgument("source -1", x, () -> x.send(0, -1, 0, 0));
        noArgument("source 256", x, () -> x.send(0, 256, 0, 0));
        noArgument("dest -1", x, () -> x.send(0, 0, -1, 0));
        noArgument("dest 256", x, () -> x.send(0, 0, 256, 0));
        noArgument("load -1", x, () -> x.send(0, 0, 200, -1));
        noArgument("load 10000", x, () -> x.send(0, 0, 200, 10000));
        noArgument("load 10000 to none", x, () -> x.send(0, 0, 0, 10000));
        noIndex("end 3", x, () -> x.send(3, -1, 0, 0));
        noIndex("end -1", x, () -> x.send(-1, 0, 0, 0));
    }

    private static void promise7SendRenews() {
        Burrowline x = met(19);
        same("age 19", x.send(0, 0, 255, 9999), 1);
        same("age 19, no hello", x.letters(), 1);
        letter("data", x, 0, 10, 20, 4, 2, 1, 0, 255, 9999);
        same("its tag", x.letter(0, 8), seal(x.session(0, 1, 1, 6), 4, 2, 1, 0, 255, 9999));
        x.pass(1);
        same("age 20", x.send(0, 0, 255, 0), 1);
        same("age 20, a hello behind", x.letters(), 3);
        same("data first", x.letter(1, 2), 4);
        same("then the hello", x.letter(2, 2), 1);
        x.send(0, 0, 255, 0);
        same("age 20, fresh hello", x.letters(), 4);
        x.pass(5);
        x.send(0, 0, 255, 0);
        same("age 25, hello not fresh", x.letters(), 6);
        Burrowline y = met(29);
        same("it did not begin", y.send(1, 200, 5, 0), 1);
        same("it did not begin: no hello", y.letters(), 1);
        same("age 29 is usable", y.send(0, 0, 255, 0), 1);
        y.pass(1);
        same("age 30 is not", y.send(0, 0, 255, 0), 0);
        Burrowline z = met();
        for (int sealed = 1; sealed < 40; sealed++) {
            same("send", z.send(0, 0, 255, sealed), 1);
            same("a hello from 30 on", z.flight(0, 1), sealed + 1 < 30 ? -1 : 3);
        }
        isNot("40 are sealed", z.isUsable(0, 1));
        same("the 41st waits", z.send(0, 0, 255, 0), 0);
        same("40 letters less the empty one, and a hello", z.letters(), 40);
    }

    private static void promise8Keep() {
        Burrowline x = met();
        is("keep", x.keep(0, 1));
        letter("an empty letter", x, 0, 10, 20, 4, 2, 1, -1, -1, -1, seal(x.session(0, 1, 1, 6), 4, 2, 1, -1, -1, -1));
        is("keep of the other side", x.keep(1, 0));
        isNot("keep without", x.keep(0, 2));
        same("two letters", x.letters(), 2);
        x.pass(29);
        is("keep at 29", x.keep(0, 1));
        same("keep sends no hello", x.letters(), 3);
        x.pass(1);
        isNot("keep at 30", x.keep(0, 1));
        same("nothing sent", x.letters(), 3);
        same("nothing waits", x.waiting(0, 1), 0);
        Burrowline y = met();
        for (int i = 1; i < 40; i++) {
            is("keep up to 40", y.keep(0, 1));
        }
        isNot("keep beyond 40", y.keep(0, 1));
        same("no hello by keep", y.flight(0, 1), -1);
        noArgument("keep itself", x, () -> x.keep(1, 1));
        noIndex("keep end 3", x, () -> x.keep(3, 3));
        noIndex("keep peer 3", x, () -> x.keep(0, 3));
        noIndex("keep peer -1", x, () -> x.keep(0, -1));
        noIndex("keep end -1", x, () -> x.keep(-1, -1));
    }

    private static void promise9Greet() {
        Burrowline x = new Burrowline();
        x.pass(3);
        same("greet", x.greet(2, 1), 1);
        int tag = seal(helloKey(2, 1, 1), 1, 1, pow(7, 578), 21, 12);
        letter("hello", x, 0, 30, 20, 1, 1, pow(7, 578), 21, 12, tag, 0);
        noState("a fresh one", x, () -> x.greet(2, 1));
        same("another way", x.greet(1, 2), 2);
        x.pass(4);
        noState("fresh at 4", x, () -> x.greet(2, 1));
        x.pass(1);
        same("at 5", x.greet(2, 1), 3);
        same("stamp by time", x.stamp(2, 1, true), 32);
        x.move(0, 40);
        same("greet of one that moved", x.greet(0, 1), 4);
        letter("from where it is", x, 3, 40, 20, 1, 4);
        noArgument("greet itself", x, () -> x.greet(2, 2));
        noIndex("greet end 3", x, () -> x.greet(3, 3));
        noIndex("greet peer 3", x, () -> x.greet(0, 3));
        noIndex("greet peer -1", x, () -> x.greet(0, -1));
        noIndex("greet end -1", x, () -> x.greet(-1, -1));
    }

    private static void promise10DeliverHello() {
        Burrowline x = new Burrowline();
        x.greet(0, 1);
        x.twice(0);
        x.reroute(0, 44);
        same("hello", x.deliver(0), 3);
        int key = replyKey(0, 1, 1, 2);
        letter("double of the hello", x, 0, 10, 20, 1);
        letter("reply", x, 1, 20, 44, 2, 2, 1, pow(7, secretOf(2)), seal(key, 2, 2, 1, pow(7, secretOf(2))), 0, 0);
        same("from is known", x.known(1, 0), 44);
        same("stamp taken", x.stamp(1, 0, false), 1);
        int[] next = {2, 1, 0, 0, -1, 0, mix(5, key, 1), mix(5, key, 0), 0};
        for (int what = 0; what < 9; what++) {
            same("next", x.session(1, 0, 2, what), next[what]);
        }
        isNot("next is not current", hasSession(x, 1, 0, 1));
        same("the double", x.deliver(0), -6);
        same("an old one makes nothing known", x.known(1, 0), 44);
        same("an old one sends nothing", x.letters(), 1);
        x.pass(5);
        x.greet(0, 1);
        same("a younger hello", x.deliver(1), 3);
        same("next is replaced", x.session(1, 0, 2, 0), 4);
        same("the reply to the elder hello, at 44", x.deliver(0), 0);
        same("the hello is in flight", x.flight(0, 1), 3);

        Burrowline y = new Burrowline();
        y.greet(0, 1);
        y.move(1, 50);
        same("nobody is there", y.deliver(0), 0);
        y.pass(5);
        y.greet(0, 1);
        y.move(2, 20);
        same("another end is there", y.deliver(0), -1);
        y.pass(5);
        y.greet(0, 1);
        y.move(2, 30);
        y.move(0, 20);
        same("the sender itself is there", y.deliver(0), -1);
        same("nothing is sent by these", y.letters(), 0);

        Burrowline z = new Burrowline();
        z.greet(0, 1);
        z.twice(0);
        z.twice(0);
        z.turn(0, 3, 1);
        z.turn(1, 4, -1);
        z.reroute(1, 77);
        same("a turned stamp", z.deliver(0), -2);
        same("a turned tag", z.deliver(0), -2);
        same("a bad one changes nothing", z.stamp(1, 0, false), 0);
        same("a bad one makes nothing known", z.known(1, 0), 10);
        same("the one that is left", z.deliver(0), 3);
    }

    private static void promise10DeliverReply() {
        Burrowline x = new Burrowline();
        x.greet(0, 1);
        x.deliver(0);
        x.twice(0);
        x.twice(0);
        x.turn(0, 3, 1);
        same("a turned reply", x.deliver(0), -2);
        same("still in flight", x.flight(0, 1), 1);
        x.pass(30);
        x.reroute(0, 66);
        same("a late reply", x.deliver(0), 3);
        same("known by the reply", x.known(0, 1), 66);
        same("nothing in flight", x.flight(0, 1), -1);
        int key = replyKey(0, 1, 1, 2);
        int[] current = {1, 2, 0, 1, -1, 0, mix(5, key, 0), mix(5, key, 1), 1};
        for (int what = 0; what < 9; what++) {
            same("current", x.session(0, 1, 1, what), current[what]);
        }
        isNot("no previous", hasSession(x, 0, 1, 0));
        same("its double", x.deliver(0), -1);
        letter("an empty letter to the new address", x, 0, 10, 66, 4, 2, 0, -1, -1, -1);
        x.greet(0, 1);
        x.move(2, 66);
        same("a hello to another", x.deliver(1), -1);
        Burrowline y = met();
        y.greet(0, 1);
        y.deliver(0);
        y.deliver(0);
        same("current became previous", y.session(0, 1, 0, 0), 1);
        same("the new current", y.session(0, 1, 1, 0), 3);
        same("next waits for a letter", y.session(1, 0, 2, 0), 4);
        same("and current is what it was", y.session(1, 0, 1, 0), 2);
        same("confirmed", y.deliver(0), 2);
        same("next is current", y.session(1, 0, 1, 0), 4);
        same("current is previous", y.session(1, 0, 0, 0), 2);
        isNot("no next", hasSession(y, 1, 0, 2));
        y.greet(1, 0);
        y.greet(0, 1);
        y.deliver(1);
        same("a next beside", y.session(1, 0, 2, 0), 7);
        y.deliver(0);
        y.deliver(1);
        same("current by a reply", y.session(1, 0, 1, 0), 5);
        same("next stays", y.session(1, 0, 2, 0), 7);
    }

    private static void promise10DeliverCookie() {
        Burrowline x = new Burrowline();
        x.load(1, true);
        x.pass(60);
        x.greet(0, 1);
        x.reroute(0, 10);
        int helloTag = x.letter(0, 7);
        same("asked", x.deliver(0), -7);
        int c = mix(6, 518, 1, 10);
        letter("a cookie", x, 0, 20, 10, 3, 1, c, seal(mix(3, publicOfEnd(1), helloTag), 3, 1, c), 0, 0, 0);
        isNot("no session of one that is asked", hasSession(x, 1, 0, 2));
        x.twice(0);
        x.turn(0, 1, 1);
        same("a turned cookie", x.deliver(0), -2);
        same("is not kept", x.cookie(0, 1), -1);
        x.reroute(0, 88);
        x.pass(1);
        x.twice(0);
        same("a cookie is taken", x.deliver(0), 3);
        same("kept", x.cookie(0, 1), c);
        same("a cookie makes nothing known", x.known(0, 1), 20);
        same("the hello is still in flight", x.flight(0, 1), 1);
        x.pass(4);
        x.greet(0, 1);
        int tag = x.letter(1, 7);
        same("proof", x.letter(1, 8), mix(2, c, tag));
        same("a cookie of an elder hello", x.deliver(0), -1);
        x.twice(0);
        x.reroute(0, 11);
        same("proof of another address", x.deliver(0), -7);
        same("a cookie goes where the hello is from", x.letter(1, 1), 11);
        x.lose(1);
        x.twice(0);
        same("proof", x.deliver(0), 3);
        x.lose(1);
        x.pass(55);
        same("now", x.now(), 120);
        same("the cookie of the next minute is another", x.deliver(0), -7);
        x.lose(0);
        same("59 after it came", x.cookie(0, 1), c);
        x.pass(1);
        same("60 after it came", x.cookie(0, 1), -1);
        x.greet(0, 1);
        same("no proof", x.letter(0, 8), 0);
        x.turn(0, 4, 7);
        int asGot = x.letter(0, 7);
        same("a turned one is asked first", x.deliver(0), -7);
        same("with the tag as got", x.letter(0, 5), seal(mix(3, publicOfEnd(1), asGot), 3, x.letter(0, 3), x.letter(0, 4)));
        same("which is bad", x.deliver(0), -2);
        x.load(1, false);
        x.pass(5);
        x.greet(0, 1);
        same("not loaded any more", x.deliver(0), 3);
    }

    private static void promise10CookieAges() {
        Burrowline x = new Burrowline();
        x.load(1, true);
        x.pass(59);
        x.greet(0, 1);
        x.deliver(0);
        x.deliver(0);
        int c = mix(6, 518, 0, 10);
        same("kept at once", x.cookie(0, 1), c);
        same("another way has none", x.cookie(1, 0), -1);
        x.pass(59);
        same("kept at 59", x.cookie(0, 1), c);
        x.greet(0, 1);
        same("proof at 59", x.letter(0, 8), mix(2, c, x.letter(0, 7)));
        x.pass(1);
        same("not at 60", x.cookie(0, 1), -1);
        x.pass(4);
        x.greet(0, 1);
        same("no proof at 64", x.letter(1, 8), 0);
    }

    private static void promise10CookieOfOne() {
        Burrowline x = new Burrowline();
        x.load(1, true);
        for (int i = 0; i < 249; i++) {
            x.pass(60);
        }
        x.greet(0, 1);
        x.reroute(0, 83);
        same("asked", x.deliver(0), -7);
        same("a MIX of 0 is 1", x.letter(0, 4), 1);
    }

    private static void promise10DeliverData() {
        Burrowline x = met();
        x.send(0, 5, 200, 77);
        x.twice(0);
        x.twice(0);
        x.reroute(0, 81);
        x.turn(1, 5, 1);
        x.reroute(1, 82);
        same("out", x.deliver(0), 1);
        same("the packet is out", x.outs(1), 1);
        same("from is known", x.known(1, 0), 81);
        same("bad", x.deliver(0), -2);
        x.reroute(0, 83);
        same("replayed", x.deliver(0), -3);
        same("neither makes known", x.known(1, 0), 81);
        x.send(0, 128, 200, 78);
        same("a foreign source", x.deliver(0), -5);
        same("is not out", x.outs(1), 1);
        same("but its counter is taken", x.session(1, 0, 1, 5), 3);
        x.allow(1, 2, 6, 8);
        x.send(0, 6, 200, 79);
        same("a source of another peer", x.deliver(0), -5);
        x.send(0, 7, 200, 80);
        same("a letter to one that moved back", x.letter(0, 1), 20);
        x.move(1, 60);
        x.move(2, 20);
        same("to an end without the session", x.deliver(0), -1);
        x.move(2, 30);
        x.move(1, 20);
        x.send(0, 7, 200, 80);
        x.twice(0);
        x.pass(29);
        same("at 29", x.deliver(0), 1);
        x.pass(1);
        x.turn(0, 1, 1);
        same("at 30, stale before bad", x.deliver(0), -4);
        x.keep(0, 1);
        same("nothing to keep", x.letters(), 0);
    }

    private static void promise10Window() {
        Burrowline x = met();
        for (int counter = 1; counter <= 18; counter++) {
            x.send(0, 5, 200, counter);
        }
        same("counter 18", x.deliver(17), 1);
        same("the greatest", x.session(1, 0, 1, 4), 18);
        same("counter 2 is 16 less", x.deliver(1), -3);
        same("counter 3 is 15 less", x.deliver(1), 1);
        same("the greatest stays", x.session(1, 0, 1, 4), 18);
        same("it took 0, 18 and 3", x.session(1, 0, 1, 5), 3);
        same("counter 1", x.deliver(0), -3);
        Burrowline y = routed();
        y.greet(0, 1);
        y.deliver(0);
        y.deliver(0);
        for (int i = 0; i < 20; i++) {
            y.keep(0, 1);
        }
        same("the first one that comes may be any", y.deliver(20), 2);
        same("counter 20", y.session(1, 0, 1, 4), 20);
        same("counter 0 is too old", y.deliver(0), -3);
    }

    private static void promise10Waiting() {
        Burrowline x = routed();
        x.greet(0, 1);
        x.deliver(0);
        x.send(1, 200, 3, 1);
        same("next is not usable, it waits", x.waiting(1, 0), 1);
        same("a hello of the other side", x.flight(1, 0), 3);
        x.deliver(0);
        x.later(0);
        same("an empty letter", x.deliver(0), 2);
        same("none waits", x.waiting(1, 0), 0);
        letter("hello, then the packet", x, 1, 20, 10, 4, 1, 0, 200, 3, 1);
        same("the hello is still in flight", x.flight(1, 0), 3);
        same("out", x.deliver(1), 1);
        same("the crossing hello", x.deliver(0), 3);
        same("its reply", x.deliver(0), 3);
        same("began there", x.session(1, 0, 1, 8), 1);
        Burrowline y = routed();
        y.send(0, 4, 200, 5);
        y.deliver(0);
        for (int i = 0; i < 60; i++) {
            y.twice(0);
            if (y.letters() == 60) {
                break;
            }
        }
        same("the net is full", y.letters(), 60);
        same("a hello is gone at once", y.greet(2, 1), 3);
        same("gone", y.letters(), 60);
        same("but in flight", y.flight(2, 1), 3);
        same("and its stamp is sent", y.stamp(2, 1, true), 1);
        same("a full net", y.deliver(0), 3);
        same("one letter in place of one", y.letters(), 60);
        same("a letter that is gone counts as sent", y.send(0, 1, 200, 2), 1);
        same("gone, too", y.letters(), 60);
        same("two were sealed", y.session(0, 1, 1, 3), 2);
    }

    private static void promise10Wrong() {
        Burrowline x = met();
        x.keep(0, 1);
        for (int letter : new int[] {-1, 1, 60, MIN, MAX}) {
            noIndex("deliver", x, () -> x.deliver(letter));
            noIndex("lose", x, () -> x.lose(letter));
            noIndex("twice", x, () -> x.twice(letter));
            noIndex("turn", x, () -> x.turn(letter, 9, 0));
            noIndex("reroute", x, () -> x.reroute(letter, 0));
            noIndex("later", x, () -> x.later(letter));
            noIndex("letter", x, () -> x.letter(letter, 9));
            noIndex("isTurned", x, () -> x.isTurned(letter));
        }
    }

    private static void promise11To15Net() {
        Burrowline x = new Burrowline();
        x.greet(0, 1);
        x.greet(1, 2);
        x.greet(2, 0);
        same("lose", x.lose(1), 2);
        same("the first stays", x.letter(0, 3), 1);
        same("the third is second", x.letter(1, 3), 3);
        same("later", x.later(0), 1);
        same("later of the last", x.later(1), 1);
        same("behind", x.letter(1, 3), 1);
        same("twice", x.twice(0), 3);
        same("the double is last", x.letter(2, 3), 3);
        same("reroute", x.reroute(0, 1), 30);
        same("reroute again", x.reroute(0, 99), 1);
        same("the same again", x.reroute(0, 99), 99);
        same("the double is from where it was", x.letter(2, 0), 30);
        same("a double of one rerouted", x.twice(0), 4);
        same("is from there", x.letter(3, 0), 99);
        noArgument("reroute 0", x, () -> x.reroute(0, 0));
        noArgument("reroute 100", x, () -> x.reroute(0, 100));
        while (x.letters() < 60) {
            x.twice(0);
        }
        noState("twice of 60", x, () -> x.twice(0));
        noIndex("twice of none in 60", x, () -> x.twice(60));
        same("later in 60", x.later(3), 59);
        same("lose of 60", x.lose(59), 59);
        same("twice of 59", x.twice(0), 60);
    }

    private static void promise13Turn() {
        Burrowline x = met();
        x.pass(20);
        x.greet(2, 1);
        same("stamp", x.turn(0, 3, 500), 580);
        x.greet(0, 1);
        x.deliver(1);
        int tag = x.letter(1, 6);
        same("reply", x.turn(1, 3, -500), tag - 500);
        x.load(0, true);
        x.greet(1, 0);
        x.deliver(2);
        same("cookie", x.letter(2, 2), 3);
        int cookie = x.letter(2, 4);
        same("cookie turned", x.turn(2, 1, 1), cookie + 1);
        x.keep(0, 1);
        same("data", x.turn(3, 2, -499), -500);
        boolean[][] can = {{false, false, false, true, true, false}, {false, false, false, true, false, false},
            {false, true, true, false, false, false}, {false, true, true, true, true, true}};
        for (int i = 0; i < 4; i++) {
            for (int field = -2; field < 8; field++) {
                int letter = i;
                int asked = field;
                boolean isOne = field >= 0 && field < 6 && can[i][field];
                if (!isOne) {
                    noArgument("turn " + i + " " + field, x, () -> x.turn(letter, asked, 1));
                } else {
                    x.twice(i);
                    int last = x.letters() - 1;
                    boolean isTheOne = field == new int[] {3, 3, 1, 2}[i];
                    if (isTheOne) {
                        x.turn(last, field, 1);
                    } else {
                        noState("turn another " + i + " " + field, x, () -> x.turn(last, asked, 1));
                        noArgument("turn another by 0", x, () -> x.turn(last, asked, 0));
                    }
                    x.lose(last);
                }
            }
        }
        for (int field = 1; field <= 5; field++) {
            x.keep(0, 1);
            x.turn(4, field, 1);
            is("turned in " + field, x.isTurned(4));
            same("bad in " + field, x.deliver(4), -2);
        }
        noArgument("by 0", x, () -> x.turn(0, 3, 0));
        noArgument("by 501", x, () -> x.turn(0, 3, 501));
        noArgument("by -501", x, () -> x.turn(0, 3, -501));
        noArgument("by MIN", x, () -> x.turn(0, 3, MIN));
        noArgument("by MAX", x, () -> x.turn(0, 3, MAX));
    }

    private static void promise13TurnFar() {
        Burrowline x = new Burrowline();
        x.greet(0, 1);
        x.twice(0);
        for (int i = 1; i <= 20; i++) {
            same("far", x.turn(0, 3, 500), 1 + 500 * i);
        }
        noArgument("too far", x, () -> x.turn(0, 3, 1));
        x.twice(0);
        noArgument("a double is as far", x, () -> x.turn(2, 3, 1));
        noState("a double has the same field", x, () -> x.turn(2, 4, 1));
        same("one back", x.turn(0, 3, -1), 10000);
        same("one on", x.turn(0, 3, 1), 10001);
        for (int i = 19; i >= -20; i--) {
            same("back", x.turn(2, 3, -500), 1 + 500 * i);
            same("turned while it differs", x.isTurned(2) ? 1 : 0, i == 0 ? 0 : 1);
        }
        noArgument("too far back", x, () -> x.turn(2, 3, -1));
        is("the first one is turned", x.isTurned(0));
        isNot("an elder double is not", x.isTurned(1));
        same("an elder double has its fields free", x.turn(1, 4, 1), x.letter(0, 7) + 1);
        same("turned back", x.turn(1, 4, -1), x.letter(0, 7));
        isNot("turned back is not turned", x.isTurned(1));
        noState("but no other field", x, () -> x.turn(1, 3, 1));
        same("turned back is right", x.deliver(1), 3);
        same("turned is bad", x.deliver(0), -2);
        is("sound", x.isSound());
    }

    private static void promise16To19Letters() {
        Burrowline x = new Burrowline();
        same("now", x.now(), 0);
        x.pass(7);
        same("now", x.now(), 7);
        same("letters", x.letters(), 0);
        x.greet(1, 2);
        same("letters", x.letters(), 1);
        same("from", x.letter(0, 0), 20);
        same("to", x.letter(0, 1), 30);
        same("kind", x.letter(0, 2), 1);
        same("way", x.letter(0, 5), 12);
        same("stamp", x.letter(0, 6), 28);
        noArgument("what -1", x, () -> x.letter(0, -1));
        noArgument("what 9", x, () -> x.letter(0, 9));
        noArgument("what MAX", x, () -> x.letter(0, MAX));
        isNot("isTurned", x.isTurned(0));
        x.deliver(0);
        same("fields that a reply has not", x.letter(0, 7), 0);
        same("fields that a reply has not", x.letter(0, 8), 0);
    }

    private static void promise20To22Addresses() {
        Burrowline x = new Burrowline();
        for (int end : new int[] {-1, 3, MIN, MAX}) {
            noIndex("address", x, () -> x.address(end));
            noIndex("known", x, () -> x.known(end, end));
            noIndex("known", x, () -> x.known(0, end));
            noIndex("route", x, () -> x.route(end, 256));
            noIndex("outs", x, () -> x.outs(end));
            noIndex("out", x, () -> x.out(end, 0, 9));
        }
        noArgument("known of itself", x, () -> x.known(2, 2));
        noArgument("route -1", x, () -> x.route(0, -1));
        noArgument("route 256", x, () -> x.route(0, 256));
        x.allow(2, 0, 0, 0);
        x.allow(2, 1, 0xC0, 2);
        x.allow(2, 0, 0xF1, 8);
        x.allow(2, 1, 0xF2, 7);
        same("0 bits", x.route(2, 0xBF), 0);
        same("2 bits", x.route(2, 0xC0), 1);
        same("8 bits", x.route(2, 0xF1), 0);
        same("7 bits", x.route(2, 0xF3), 1);
        same("none", x.route(1, 0), -1);
        Burrowline y = met();
        y.move(0, 55);
        y.keep(0, 1);
        same("still known by the elder address", y.known(1, 0), 10);
        y.deliver(0);
        same("known by the new address", y.known(1, 0), 55);
    }

    private static void promise23To28Pairs() {
        Burrowline x = met();
        x.pass(12);
        same("age", x.session(0, 1, 1, 2), 12);
        same("other", x.session(0, 1, 1, 1), 2);
        same("sealed", x.session(0, 1, 1, 3), 1);
        same("greatest, none", x.session(0, 1, 1, 4), -1);
        same("greatest", x.session(1, 0, 1, 4), 0);
        same("took", x.session(1, 0, 1, 5), 1);
        same("crosswise", x.session(0, 1, 1, 6), x.session(1, 0, 1, 7));
        same("crosswise", x.session(0, 1, 1, 7), x.session(1, 0, 1, 6));
        same("began", x.session(0, 1, 1, 8), 1);
        same("began not", x.session(1, 0, 1, 8), 0);
        noElement("no previous", x, () -> x.session(0, 1, 0, 0));
        noElement("no next", x, () -> x.session(0, 1, 2, 8));
        noElement("no current", x, () -> x.session(0, 2, 1, 0));
        noArgument("which 3", x, () -> x.session(0, 1, 3, 0));
        noArgument("which -1", x, () -> x.session(0, 1, -1, 0));
        noArgument("what 9", x, () -> x.session(0, 1, 0, 9));
        noArgument("what -1", x, () -> x.session(0, 1, 1, -1));
        noArgument("itself", x, () -> x.session(0, 0, 1, 0));
        is("usable", x.isUsable(0, 1));
        is("usable", x.isUsable(1, 0));
        isNot("usable", x.isUsable(2, 0));
        x.pass(17);
        is("usable at 29", x.isUsable(0, 1));
        x.pass(1);
        isNot("usable at 30", x.isUsable(0, 1));
        for (int bad : new int[] {-1, 3, MIN, MAX}) {
            noIndex("session", x, () -> x.session(bad, bad, 9, 9));
            noIndex("session", x, () -> x.session(0, bad, 9, 9));
            noIndex("isUsable", x, () -> x.isUsable(bad, bad));
            noIndex("isUsable", x, () -> x.isUsable(0, bad));
            noIndex("flight", x, () -> x.flight(bad, bad));
            noIndex("flight", x, () -> x.flight(1, bad));
            noIndex("waiting", x, () -> x.waiting(bad, bad));
            noIndex("waiting", x, () -> x.waiting(1, bad));
            noIndex("cookie", x, () -> x.cookie(bad, bad));
            noIndex("cookie", x, () -> x.cookie(1, bad));
            noIndex("stamp", x, () -> x.stamp(bad, bad, true));
            noIndex("stamp", x, () -> x.stamp(1, bad, false));
        }
        for (int end = 0; end < 3; end++) {
            int same = end;
            noArgument("isUsable", x, () -> x.isUsable(same, same));
            noArgument("flight", x, () -> x.flight(same, same));
            noArgument("waiting", x, () -> x.waiting(same, same));
            noArgument("cookie", x, () -> x.cookie(same, same));
            noArgument("stamp", x, () -> x.stamp(same, same, true));
        }
        same("flight", x.greet(1, 0), x.flight(1, 0));
        x.pass(60);
        same("an old one is still in flight", x.flight(1, 0), 3);
        same("stamp sent", x.stamp(1, 0, true), 120);
        same("stamp taken", x.stamp(1, 0, false), 1);
        same("stamp of the other way", x.stamp(0, 1, true), 1);
        Burrowline y = new Burrowline();
        y.greet(0, 1);
        y.deliver(0);
        y.deliver(0);
        y.greet(0, 1);
        same("one more than the latest", y.stamp(0, 1, true), 2);
        same("waiting", y.waiting(0, 1), 0);
    }

    private static void promise29To31Outs() {
        Burrowline x = met();
        x.allow(2, 1, 0, 1);
        x.allow(1, 2, 192, 2);
        x.send(0, 5, 200, 0);
        x.send(0, 6, 201, 9999);
        x.deliver(1);
        x.deliver(0);
        x.send(2, 192, 9, 42);
        for (int i = 0; i < 3; i++) {
            x.deliver(0);
        }
        same("outs", x.outs(1), 3);
        same("outs of another", x.outs(0), 0);
        int[][] want = {{0, 6, 201, 9999}, {0, 5, 200, 0}, {2, 192, 9, 42}};
        for (int i = 0; i < 3; i++) {
            for (int what = 0; what < 4; what++) {
                same("out " + i + " " + what, x.out(1, i, what), want[i][what]);
            }
        }
        noArgument("what 4", x, () -> x.out(1, 0, 4));
        noArgument("what -1", x, () -> x.out(1, 0, -1));
        noIndex("place 3", x, () -> x.out(1, 3, 0));
        noIndex("place -1", x, () -> x.out(1, -1, 4));
        noIndex("place 0 of none", x, () -> x.out(0, 0, 0));
        same("drops of out", x.drops(1), 3);
        same("drops of alive", x.drops(2), 1);
        same("drops of taken", x.drops(3), 4);
        same("drops of lost", x.drops(0), 0);
        x.greet(0, 2);
        x.move(2, 31);
        x.deliver(0);
        same("drops of lost", x.drops(0), 1);
        for (int code : new int[] {-8, 4, MIN, MAX}) {
            noArgument("drops", x, () -> x.drops(code));
        }
    }

    private static void promise32To34Numbers() {
        Burrowline x = new Burrowline();
        for (int secret : new int[] {0, 1, 2, 211, 518, 825, 1018, 1019, 2038, 999999, 1000000}) {
            same("publicOf " + secret, x.publicOf(secret), pow(7, secret));
            for (int number : new int[] {1, 2, 7, 1000, 2038}) {
                same("shared " + secret, x.shared(secret, number), pow(number, secret));
            }
        }
        for (int bad : new int[] {-1, 1000001, MIN, MAX}) {
            noArgument("publicOf", x, () -> x.publicOf(bad));
            noArgument("shared", x, () -> x.shared(bad, 1));
        }
        for (int bad : new int[] {-1, 0, 2039, MIN, MAX}) {
            noArgument("shared", x, () -> x.shared(5, bad));
        }
        int[] numbers = {-1, 0, 1, 5000, 9999};
        for (int key : new int[] {1, 2, 31, 65519, 65520}) {
            for (int first : numbers) {
                for (int third : numbers) {
                    same("seal", x.seal(key, first, 77, third), seal(key, first, 77, third));
                    same("seal", x.seal(key, 3, first, third), seal(key, 3, first, third));
                }
            }
        }
        for (int bad : new int[] {0, -1, 65521, MIN, MAX}) {
            noArgument("seal key", x, () -> x.seal(bad, 0, 0, 0));
        }
        for (int bad : new int[] {-2, 10000, MIN, MAX}) {
            noArgument("seal first", x, () -> x.seal(1, bad, 0, 0));
            noArgument("seal second", x, () -> x.seal(1, 0, bad, 0));
            noArgument("seal third", x, () -> x.seal(1, 0, 0, bad));
        }
    }

    private static void promise35To36Means() {
        Burrowline x = routed();
        is("share of none", x.share() == 0f);
        is("mean of none", x.meanAge() == 0.0);
        x.greet(0, 1);
        x.pass(1);
        x.deliver(0);
        is("next is not current", x.meanAge() == 0.0);
        x.pass(2);
        x.deliver(0);
        x.pass(4);
        is("mean of one", x.meanAge() == 4.0);
        x.deliver(0);
        is("mean of two", x.meanAge() == 5.0);
        is("share 0", x.share() == 0f);
        x.send(0, 1, 200, 1);
        x.deliver(0);
        is("share of 4", x.share() == 1f / 4f);
        x.send(0, 1, 200, 1);
        x.send(0, 1, 200, 1);
        x.deliver(0);
        x.move(1, 21);
        x.deliver(0);
        is("share of 6, a lost one counted", x.share() == 2f / 6f);
        x.move(1, 20);
        x.greet(1, 2);
        x.deliver(0);
        x.deliver(0);
        is("mean of three", x.meanAge() == 10.0 / 3.0);
        x.pass(60);
        is("mean of old ones", x.meanAge() == 190.0 / 3.0);
    }

    private static void promise37Sound() {
        Burrowline x = routed();
        is("sound at first", x.isSound());
        x.greet(0, 1);
        x.twice(0);
        x.turn(1, 3, -500);
        is("sound with a turned letter", x.isSound());
        x.deliver(0);
        x.deliver(1);
        for (int i = 0; i < 45; i++) {
            x.send(0, i, 255, i);
            x.send(1, 255, i, i);
        }
        is("sound after many", x.isSound());
        for (int i = 0; i < 40; i++) {
            x.deliver(i % x.letters());
        }
        is("sound at last", x.isSound());
    }

    private static void promise38Checksum() {
        Burrowline x = new Burrowline();
        same("checksum of a new one", x.checksum(), sumOf(x, new int[3], new int[3]));
        x = met();
        x.load(2, true);
        x.send(0, 1, 200, 55);
        x.send(0, 1, 200, 56);
        x.send(0, 200, 1, 56);
        x.send(1, 200, 1, 57);
        x.deliver(0);
        x.pass(20);
        x.send(0, 1, 200, 58);
        x.greet(1, 2);
        x.send(1, 1, 2, 58);
        for (int i = 0; i < 3; i++) {
            x.deliver(1);
        }
        x.move(2, 3);
        x.turn(0, 5, -3);
        same("checksum", x.checksum(), sumOf(x, new int[] {1, 1, 0}, new int[] {0, 0, 1}));
        long before = x.checksum();
        x.turn(0, 5, 1);
        isNot("a turn leaves the checksum", before == x.checksum());
    }

    public static void main(String[] args) {
        promise1New();
        promise2Pass();
        promise3Move();
        promise4Load();
        promise5Allow();
        promise6Forbid();
        promise7Send();
        promise7SendRenews();
        promise8Keep();
        promise9Greet();
        promise10DeliverHello();
        promise10DeliverReply();
        promise10DeliverCookie();
        promise10CookieAges();
        promise10CookieOfOne();
        promise10DeliverData();
        promise10Window();
        promise10Waiting();
        promise10Wrong();
        promise11To15Net();
        promise13Turn();
        promise13TurnFar();
        promise16To19Letters();
        promise20To22Addresses();
        promise23To28Pairs();
        promise29To31Outs();
        promise32To34Numbers();
        promise35To36Means();
        promise37Sound();
        promise38Checksum();
        finish();
    }
}
