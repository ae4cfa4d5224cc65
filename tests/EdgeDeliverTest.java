/** The edges of what is delivered: Terms 5, sentence by sentence. */
public final class EdgeDeliverTest extends Checks {
    private static final int OUT = 1;
    private static final int ALIVE = 2;
    private static final int TAKEN = 3;
    private static final int LOST = 0;
    private static final int UNKNOWN = -1;
    private static final int BAD = -2;
    private static final int REPLAYED = -3;
    private static final int STALE = -4;
    private static final int FOREIGN = -5;
    private static final int OLD = -6;
    private static final int ASKED = -7;

    /** A HELLO, a REPLY, a COOKIE and a DATA letter from 1 to 0, in this order. */
    private static Burrowline oneOfEachKind() {
        Burrowline x = met();
        x.load(1, true);
        x.greet(0, 1);
        x.twice(0);
        x.deliver(0);
        x.load(1, false);
        x.deliver(0);
        x.later(0);
        x.greet(1, 0);
        x.later(0);
        x.later(0);
        x.keep(1, 0);
        for (int i = 0; i < 4; i++) {
            same("KIND", x.letter(i, 2), new int[] {1, 2, 3, 4}[i]);
            same("TO", x.letter(i, 1), 10);
        }
        return x;
    }

    private static void goesFromTheRow() {
        Burrowline x = met();
        for (int load = 0; load < 3; load++) {
            x.send(0, 5, 200, load);
        }
        x.deliver(1);
        same("one less", x.letters(), 2);
        same("the one before stays", x.letter(0, 7), 0);
        same("the one behind comes up", x.letter(1, 7), 2);
        x.deliver(1);
        x.deliver(0);
        same("none", x.letters(), 0);
    }

    private static void lost() {
        Burrowline x = oneOfEachKind();
        x.move(0, 11);
        int known = x.known(0, 1);
        for (int kind = 1; kind <= 4; kind++) {
            same("of the kind " + kind, x.deliver(0), LOST);
        }
        same("no letter", x.letters(), 0);
        same("counted", x.drops(LOST), 4);
        same("nothing is KNOWN by them", x.known(0, 1), known);
        same("their HELLOS are in FLIGHT still", x.flight(0, 1), 3);
        same("their HELLOS are in FLIGHT still", x.flight(1, 0), 5);
    }

    private static void anotherEndGetsIt() {
        Burrowline x = oneOfEachKind();
        x.move(0, 11);
        x.move(2, 10);
        for (int kind = 1; kind <= 4; kind++) {
            same("of the kind " + kind, x.deliver(0), UNKNOWN);
        }
        same("nothing is sent", x.letters(), 0);
    }

    // ---------------------------------------------------------------- HELLO

    private static void helloToAnother() {
        Burrowline x = new Burrowline();
        x.greet(0, 1);
        x.twice(0);
        x.twice(0);
        x.move(1, 55);
        x.move(2, 20);
        same("to a third end", x.deliver(0), UNKNOWN);
        x.load(2, true);
        same("to a third end that is loaded", x.deliver(0), UNKNOWN);
        x.move(2, 30);
        x.move(0, 20);
        x.turn(0, 4, 1);
        same("to its own end, a TURNED one", x.deliver(0), UNKNOWN);
        same("nothing is sent", x.letters(), 0);
        same("no STAMP is taken", x.stamp(2, 0, false), 0);
    }

    /** The end 1 is loaded, 0 has kept its COOKIE at 60, and a HELLO with a PROOF lies in the net. */
    private static Burrowline proved() {
        Burrowline x = new Burrowline();
        x.load(1, true);
        x.pass(60);
        x.greet(0, 1);
        x.deliver(0);
        x.deliver(0);
        x.pass(5);
        x.greet(0, 1);
        same("PROOF", x.letter(0, 8), mix(2, cookieOf(1, 1, 10), x.letter(0, 7)));
        return x;
    }

    private static void proofIsRight() {
        same("in its minute", proved().deliver(0), TAKEN);
        Burrowline x = proved();
        for (int i = 0; i < 54; i++) {
            x.pass(1);
        }
        same("at 119", x.deliver(0), TAKEN);
        Burrowline y = proved();
        y.pass(55);
        same("at 120", y.deliver(0), ASKED);
    }

    private static void proofOfAnotherAddress() {
        Burrowline x = proved();
        x.reroute(0, 11);
        x.twice(0);
        same("FROM 11", x.deliver(0), ASKED);
        same("the COOKIE goes there", x.letter(1, 1), 11);
        same("and is for there", x.letter(1, 4), cookieOf(1, 1, 11));
        same("FROM the end", x.letter(1, 0), 20);
        x.reroute(0, 10);
        same("FROM 10 again", x.deliver(0), TAKEN);
    }

    private static void askedFirst() {
        Burrowline x = proved();
        x.twice(0);
        x.turn(1, 4, 1);
        same("a TURNED TAG is ASKED, not BAD", x.deliver(1), ASKED);
        int c = cookieOf(1, 1, 10);
        int tag = x.letter(0, 7) + 1;
        same("with the TAG as it was got", x.letter(1, 5), seal(mix(3, publicOfEnd(1), tag), 3, 2, c));
        same("which is not the one in FLIGHT", x.deliver(1), BAD);
        x.twice(0);
        x.turn(1, 3, 1);
        same("a TURNED STAMP has its PROOF and is BAD", x.deliver(1), BAD);
        x.twice(0);
        same("the right one", x.deliver(0), TAKEN);
        same("its double has its PROOF and is OLD", x.deliver(0), OLD);
        Burrowline y = new Burrowline();
        y.greet(0, 1);
        y.twice(0);
        y.deliver(0);
        y.load(1, true);
        same("an OLD one without a PROOF is ASKED", y.deliver(0), ASKED);
        same("it makes nothing KNOWN", y.known(1, 0), 10);
        same("and no STAMP", y.stamp(1, 0, false), 1);
    }

    private static void notLoaded() {
        Burrowline x = proved();
        x.load(1, false);
        x.reroute(0, 11);
        same("a wrong PROOF", x.deliver(0), TAKEN);
        x.greet(1, 2);
        same("the other end is not loaded", x.deliver(1), TAKEN);
    }

    private static void helloBad() {
        for (int field = 3; field <= 4; field++) {
            for (int by : new int[] {-500, -1, 1, 500}) {
                Burrowline x = new Burrowline();
                x.pass(60);
                x.greet(0, 1);
                x.turn(0, field, by);
                x.reroute(0, 66);
                same("FIELD " + field + " by " + by, x.deliver(0), BAD);
                same("nothing KNOWN", x.known(1, 0), 10);
                same("no STAMP", x.stamp(1, 0, false), 0);
                same("no REPLY", x.letters(), 0);
            }
        }
    }

    private static void badBeforeOld() {
        Burrowline x = new Burrowline();
        x.pass(60);
        x.greet(0, 1);
        x.twice(0);
        x.turn(1, 3, -1);
        x.deliver(0);
        same("a STAMP that is below", x.deliver(0), BAD);
    }

    private static void old() {
        Burrowline x = new Burrowline();
        x.greet(0, 1);
        x.twice(0);
        x.twice(0);
        x.reroute(1, 66);
        x.deliver(0);
        same("an equal STAMP", x.deliver(0), OLD);
        same("nothing KNOWN", x.known(1, 0), 10);
        x.lose(1);
        x.pass(5);
        x.greet(0, 1);
        x.deliver(1);
        same("a STAMP far below", x.deliver(0), OLD);
        same("the greatest stays", x.stamp(1, 0, false), 20);
        same("NEXT stays", x.session(1, 0, 2, 1), 3);
    }

    private static void oneAboveIsNotOld() {
        Burrowline x = new Burrowline();
        x.greet(0, 1);
        x.deliver(0);
        x.deliver(0);
        x.greet(0, 1);
        same("1 above", x.letter(1, 6), 2);
        same("the greatest", x.stamp(1, 0, false), 1);
        same("is taken", x.deliver(1), TAKEN);
        same("the greatest then", x.stamp(1, 0, false), 2);
        x.greet(2, 1);
        same("the same STAMP of another", x.letter(2, 6), 1);
        same("is not OLD", x.deliver(2), TAKEN);
        x.greet(1, 0);
        same("nor one that goes the other way", x.deliver(3), TAKEN);
    }

    private static void nextInPlaceOfAnElderOne() {
        Burrowline x = offered();
        int key = replyKey(0, 1, 1, 2);
        session("NEXT", x, 1, 0, 2, 2, 1, 0, 0, -1, 0, mix(5, key, 1), mix(5, key, 0), 0);
        x.pass(5);
        x.greet(0, 1);
        x.reroute(1, 40);
        same("a younger HELLO", x.deliver(1), TAKEN);
        same("NEXT", x.session(1, 0, 2, 0), 4);
        same("FROM is KNOWN", x.known(1, 0), 40);
        same("a REPLY is sent there", x.letter(1, 1), 40);
        isNot("NEXT is not CURRENT", hasSession(x, 1, 0, 1));
        same("a letter of the elder one has no session", x.deliver(0), UNKNOWN);
    }

    // ---------------------------------------------------------------- REPLY

    private static void replyUnknown() {
        Burrowline x = offered();
        x.twice(0);
        x.twice(0);
        x.turn(1, 3, 1);
        same("the one in FLIGHT", x.deliver(0), TAKEN);
        same("none in FLIGHT, before BAD", x.deliver(0), UNKNOWN);
        x.greet(0, 1);
        same("another one in FLIGHT", x.deliver(0), UNKNOWN);
        same("which stays so", x.flight(0, 1), 3);
    }

    private static void replyBad() {
        for (int by : new int[] {-500, -1, 1, 500}) {
            Burrowline x = offered();
            x.twice(0);
            x.turn(1, 3, by);
            x.reroute(1, 66);
            same("by " + by, x.deliver(1), BAD);
            same("still in FLIGHT", x.flight(0, 1), 1);
            same("nothing KNOWN", x.known(0, 1), 20);
            isNot("no session", hasSession(x, 0, 1, 1));
            same("nothing is sent", x.letters(), 1);
            same("the right one", x.deliver(0), TAKEN);
        }
    }

    private static void replyTaken() {
        Burrowline x = offered();
        x.greet(0, 2);
        x.pass(45);
        x.reroute(0, 66);
        same("a late one", x.deliver(0), TAKEN);
        same("nothing in FLIGHT", x.flight(0, 1), -1);
        same("to that peer alone", x.flight(0, 2), 3);
        same("FROM is KNOWN", x.known(0, 1), 66);
        int key = replyKey(0, 1, 1, 2);
        session("CURRENT", x, 0, 1, 1, 1, 2, 0, 1, -1, 0, mix(5, key, 0), mix(5, key, 1), 1);
        is("is USABLE", x.isUsable(0, 1));
        letter("an EMPTY letter goes there", x, 1, 10, 66, 4, 2, 0, -1, -1, -1);
    }

    private static void currentOrNoneIsPrevious() {
        Burrowline x = offered();
        x.deliver(0);
        isNot("none", hasSession(x, 0, 1, 0));
        isNot("none of the other side", hasSession(x, 1, 0, 0));
        x.deliver(0);
        isNot("none when DATA came", hasSession(x, 1, 0, 0));
        x.greet(0, 1);
        x.deliver(0);
        x.deliver(0);
        same("by a REPLY", x.session(0, 1, 0, 0), 1);
        x.deliver(0);
        same("by DATA", x.session(1, 0, 0, 0), 2);
        x.greet(1, 0);
        x.deliver(0);
        x.deliver(0);
        same("by a REPLY to the other side", x.session(1, 0, 0, 0), 4);
        same("the eldest is gone", x.session(1, 0, 1, 0), 5);
    }

    private static void staleOneIsPrevious() {
        Burrowline x = met(60);
        x.greet(0, 1);
        x.deliver(0);
        x.deliver(0);
        x.deliver(0);
        same("by a REPLY", x.session(0, 1, 0, 0), 1);
        same("by DATA", x.session(1, 0, 0, 0), 2);
        Burrowline y = sealed(40);
        y.greet(0, 1);
        y.deliver(0);
        y.deliver(0);
        same("one that sealed 40", y.session(0, 1, 0, 3), 40);
    }

    private static void nextStaysBesideAReply() {
        Burrowline x = met();
        x.greet(1, 0);
        x.greet(0, 1);
        x.deliver(1);
        x.deliver(0);
        x.deliver(1);
        same("CURRENT by the REPLY", x.session(1, 0, 1, 0), 3);
        same("NEXT by the HELLO", x.session(1, 0, 2, 0), 5);
        x.lose(1);
        same("the other REPLY", x.deliver(0), TAKEN);
        same("and its DATA", x.deliver(0), ALIVE);
        same("CURRENT by DATA", x.session(1, 0, 1, 0), 5);
        same("PREVIOUS", x.session(1, 0, 0, 0), 3);
        isNot("NEXT is none", hasSession(x, 1, 0, 2));
    }

    private static void waitingByAReply() {
        for (int count = 0; count <= 4; count++) {
            Burrowline x = routed();
            for (int i = 0; i < count; i++) {
                x.send(0, 5, 200, 70 + i);
            }
            if (count == 0) {
                x.greet(0, 1);
            }
            x.deliver(0);
            x.deliver(0);
            same("letters for " + count, x.letters(), Math.max(count, 1));
            for (int i = 0; i < x.letters(); i++) {
                same("LOAD", x.letter(i, 7), count == 0 ? -1 : 70 + i);
                same("COUNTER", x.letter(i, 4), i);
            }
            same("none WAITS", x.waiting(0, 1), 0);
        }
    }

    // ---------------------------------------------------------------- COOKIE

    private static Burrowline cookieLies() {
        Burrowline x = new Burrowline();
        x.load(1, true);
        x.greet(0, 1);
        same("ASKED", x.deliver(0), ASKED);
        return x;
    }

    private static void cookieUnknown() {
        Burrowline x = cookieLies();
        x.twice(0);
        x.twice(0);
        x.turn(1, 2, 1);
        x.pass(5);
        x.greet(0, 1);
        same("of an elder HELLO", x.deliver(0), UNKNOWN);
        same("of an elder HELLO, before BAD", x.deliver(0), UNKNOWN);
        x.move(0, 12);
        x.move(2, 10);
        same("to another end", x.deliver(0), UNKNOWN);
        same("none is kept", x.cookie(0, 1), -1);
    }

    private static void cookieBad() {
        for (int field = 1; field <= 2; field++) {
            for (int by : new int[] {-500, -1, 1, 500}) {
                Burrowline x = cookieLies();
                x.twice(0);
                x.turn(1, field, by);
                same("FIELD " + field + " by " + by, x.deliver(1), BAD);
                same("none is kept", x.cookie(0, 1), -1);
                same("the right one", x.deliver(0), TAKEN);
            }
        }
    }

    private static void cookieKept() {
        Burrowline x = cookieLies();
        x.twice(0);
        x.reroute(0, 66);
        int c = x.letter(0, 4);
        x.pass(40);
        same("a late one", x.deliver(0), TAKEN);
        same("kept", x.cookie(0, 1), c);
        same("not of another peer", x.cookie(0, 2), -1);
        same("FROM is not KNOWN by it", x.known(0, 1), 20);
        same("the HELLO is in FLIGHT", x.flight(0, 1), 1);
        x.pass(59);
        same("at 59", x.cookie(0, 1), c);
        same("its double is taken", x.deliver(0), TAKEN);
        x.pass(59);
        same("59 after that", x.cookie(0, 1), c);
        x.pass(1);
        same("60 after that", x.cookie(0, 1), -1);
    }

    // ---------------------------------------------------------------- DATA

    private static void dataUnknown() {
        Burrowline x = routed();
        x.greet(0, 1);
        x.deliver(0);
        x.twice(0);
        x.deliver(0);
        x.twice(1);
        x.twice(1);
        x.pass(5);
        same("NEXT has the INDEX", x.deliver(1), ALIVE);
        x.move(1, 50);
        x.move(2, 20);
        same("an end without it", x.deliver(1), UNKNOWN);
        x.move(2, 30);
        x.move(0, 20);
        same("the end that sealed it", x.deliver(1), UNKNOWN);
    }

    private static void unknownBeforeStale() {
        Burrowline x = offered();
        x.deliver(0);
        x.pass(30);
        x.twice(0);
        x.move(1, 50);
        x.move(2, 20);
        same("an end without it", x.deliver(0), UNKNOWN);
        x.move(2, 30);
        x.move(1, 20);
        same("the end with it", x.deliver(0), STALE);
    }

    private static void stale() {
        Burrowline x = met();
        x.keep(0, 1);
        x.keep(0, 1);
        x.pass(29);
        same("at 29", x.deliver(0), ALIVE);
        x.pass(1);
        x.reroute(0, 66);
        same("at 30", x.deliver(0), STALE);
        same("nothing KNOWN", x.known(1, 0), 10);
        same("no COUNTER is taken", x.session(1, 0, 1, 5), 2);
    }

    private static void staleByItsOwnAge() {
        Burrowline x = offered();
        x.pass(29);
        x.deliver(0);
        x.twice(0);
        same("NEXT at 29", x.deliver(0), ALIVE);
        Burrowline y = offered();
        y.pass(29);
        y.deliver(0);
        y.pass(1);
        same("NEXT at 30, though the sender's is 1", y.deliver(0), STALE);
        is("NEXT stays", hasSession(y, 1, 0, 2));
        isNot("CURRENT is none", hasSession(y, 1, 0, 1));
    }

    private static void staleBeforeBad() {
        Burrowline x = met();
        x.keep(0, 1);
        x.turn(0, 5, 1);
        x.pass(30);
        same("a TURNED one at 30", x.deliver(0), STALE);
    }

    private static void dataBad() {
        for (int field = 1; field <= 5; field++) {
            for (int by : new int[] {-500, -1, 1, 500}) {
                Burrowline x = offered();
                x.deliver(0);
                x.twice(0);
                x.turn(1, field, by);
                x.reroute(1, 66);
                same("FIELD " + field + " by " + by, x.deliver(1), BAD);
                same("nothing KNOWN", x.known(1, 0), 10);
                is("NEXT stays", hasSession(x, 1, 0, 2));
                same("no COUNTER is taken", x.session(1, 0, 2, 5), 0);
                same("the right one", x.deliver(0), ALIVE);
            }
        }
    }

    private static void badBeforeReplayed() {
        Burrowline x = met();
        x.keep(0, 1);
        x.twice(0);
        x.twice(0);
        x.turn(1, 2, 7);
        x.deliver(0);
        same("a TURNED double", x.deliver(0), BAD);
        same("a double", x.deliver(0), REPLAYED);
    }

    private static void counterTaken() {
        Burrowline x = met();
        x.send(0, 5, 200, 1);
        x.twice(0);
        x.reroute(1, 66);
        x.deliver(0);
        same("a double", x.deliver(0), REPLAYED);
        same("nothing KNOWN", x.known(1, 0), 10);
        same("OUT just once", x.outs(1), 1);
        same("taken just once", x.session(1, 0, 1, 5), 2);
        x.send(0, 5, 200, 2);
        same("the next COUNTER", x.deliver(0), OUT);
    }

    private static void counterOfAnotherSession() {
        Burrowline x = met();
        x.keep(1, 0);
        x.greet(0, 1);
        x.deliver(1);
        x.deliver(1);
        same("COUNTER 0 of the new session", x.letter(1, 4), 0);
        same("was taken by the old one alone", x.deliver(1), ALIVE);
        same("and the other side's are others", x.deliver(0), ALIVE);
    }

    /** The end 1 took the COUNTER 20 and the COUNTER 0; the letters of 1 to 19 lie in the net in their order. */
    private static Burrowline tookTwenty() {
        Burrowline x = met();
        for (int counter = 1; counter <= 20; counter++) {
            x.keep(0, 1);
        }
        same("COUNTER 20", x.letter(19, 4), 20);
        same("is taken", x.deliver(19), ALIVE);
        return x;
    }

    private static void windowOf16() {
        Burrowline x = tookTwenty();
        same("16 less", x.deliver(3), REPLAYED);
        same("15 less", x.deliver(3), ALIVE);
        same("17 less", x.deliver(2), REPLAYED);
        same("1 less", x.deliver(x.letters() - 1), ALIVE);
        same("19 less", x.deliver(0), REPLAYED);
        same("the greatest stays", x.session(1, 0, 1, 4), 20);
        same("how many", x.session(1, 0, 1, 5), 4);
        x.keep(0, 1);
        same("a greater one", x.deliver(x.letters() - 1), ALIVE);
        same("is the greatest", x.session(1, 0, 1, 4), 21);
        same("the COUNTER 6 lies there", x.letter(1, 4), 6);
        same("it is 15 less now", x.deliver(1), ALIVE);
    }

    private static void windowOfTheFirst() {
        Burrowline x = offered();
        x.deliver(0);
        for (int counter = 1; counter < 40; counter++) {
            x.keep(0, 1);
        }
        same("the last COUNTER as the first that comes", x.deliver(39), ALIVE);
        same("is the greatest", x.session(1, 0, 1, 4), 39);
        same("23 is 16 less", x.deliver(23), REPLAYED);
        same("24 is 15 less", x.deliver(23), ALIVE);
        Burrowline y = offered();
        y.deliver(0);
        same("COUNTER 0, if none was taken", y.deliver(0), ALIVE);
        same("is the greatest", y.session(1, 0, 1, 4), 0);
    }

    private static void fromIsKnown() {
        Burrowline x = met();
        x.keep(0, 1);
        x.reroute(0, 99);
        x.deliver(0);
        same("FROM 99", x.known(1, 0), 99);
        x.keep(1, 0);
        same("a letter goes there", x.letter(0, 1), 99);
        x.greet(0, 1);
        x.deliver(1);
        x.deliver(1);
        x.keep(1, 0);
        x.deliver(1);
        same("FROM by another session", x.known(1, 0), 10);
    }

    private static void nextIsCurrent() {
        Burrowline x = met();
        for (int load = 0; load < 2; load++) {
            x.keep(1, 0);
        }
        x.greet(0, 1);
        x.deliver(2);
        x.deliver(2);
        x.deliver(2);
        same("NEXT is CURRENT", x.session(1, 0, 1, 0), 4);
        same("CURRENT is PREVIOUS", x.session(1, 0, 0, 0), 2);
        isNot("NEXT is none", hasSession(x, 1, 0, 2));
        same("a letter for PREVIOUS", x.deliver(0), ALIVE);
        same("leaves CURRENT", x.session(0, 1, 1, 0), 3);
        same("and PREVIOUS", x.session(0, 1, 0, 0), 1);
        x.keep(0, 1);
        x.deliver(1);
        same("a letter for CURRENT leaves it", x.session(1, 0, 1, 0), 4);
        same("and PREVIOUS", x.session(1, 0, 0, 0), 2);
    }

    private static void waitingByData() {
        Burrowline x = offered();
        for (int i = 0; i < 5; i++) {
            x.send(1, 200, 5, 30 + i);
        }
        same("a HELLO for them", x.flight(1, 0), 3);
        x.lose(1);
        x.deliver(0);
        x.reroute(0, 66);
        same("DATA for NEXT", x.deliver(0), ALIVE);
        same("four letters", x.letters(), 4);
        for (int i = 0; i < 4; i++) {
            letter("in order, to where it is FROM", x, i, 20, 66, 4, 1, i, 200, 5, 31 + i);
        }
        same("none WAITS", x.waiting(1, 0), 0);
        Burrowline y = offered();
        y.deliver(0);
        y.deliver(0);
        same("none WAITS: no EMPTY letter", y.letters(), 0);
    }

    private static void waitingByDataOfNextAlone() {
        Burrowline x = met();
        x.keep(0, 1);
        x.pass(20);
        x.greet(0, 1);
        x.deliver(1);
        x.pass(10);
        x.send(1, 200, 5, 1);
        same("it WAITS", x.waiting(1, 0), 1);
        same("DATA of a STALE CURRENT", x.deliver(0), STALE);
        same("it WAITS on", x.waiting(1, 0), 1);
        x.deliver(0);
        same("DATA of NEXT", x.deliver(1), ALIVE);
        same("none WAITS", x.waiting(1, 0), 0);
    }

    private static void alive() {
        Burrowline x = new Burrowline();
        x.greet(0, 1);
        x.deliver(0);
        x.deliver(0);
        same("without a ROUTE", x.deliver(0), ALIVE);
        same("nothing is OUT", x.outs(1), 0);
        same("its COUNTER is taken", x.session(1, 0, 1, 4), 0);
    }

    private static void foreign() {
        Burrowline x = met();
        x.send(0, 127, 200, 1);
        x.send(0, 128, 200, 2);
        x.allow(1, 2, 64, 8);
        x.send(0, 64, 200, 3);
        x.reroute(1, 67);
        same("SOURCE 127", x.deliver(0), OUT);
        same("SOURCE 128 is given to none", x.deliver(0), FOREIGN);
        same("FROM is KNOWN all the same", x.known(1, 0), 67);
        same("its COUNTER is taken", x.session(1, 0, 1, 5), 3);
        same("SOURCE 64 is given to another", x.deliver(0), FOREIGN);
        same("one is OUT", x.outs(1), 1);
    }

    private static void foreignByNext() {
        Burrowline x = routed();
        x.send(0, 128, 200, 1);
        x.deliver(0);
        x.deliver(0);
        same("the first of NEXT", x.deliver(0), FOREIGN);
        same("NEXT is CURRENT all the same", x.session(1, 0, 1, 0), 2);
    }

    private static void out() {
        Burrowline x = met();
        x.send(0, 0, 255, 0);
        x.send(0, 127, 128, 9999);
        x.allow(1, 0, 127, 8);
        same("OUT", x.deliver(0), OUT);
        same("OUT", x.deliver(0), OUT);
        int[][] want = {{0, 0, 255, 0}, {0, 127, 128, 9999}};
        for (int place = 0; place < 2; place++) {
            for (int what = 0; what < 4; what++) {
                same("of " + place, x.out(1, place, what), want[place][what]);
            }
        }
    }

    private static void codes() {
        Burrowline x = oneOfEachKind();
        for (int kind = 1; kind <= 4; kind++) {
            same("of the kind " + kind, x.deliver(0), kind < 3 ? TAKEN : kind == 3 ? UNKNOWN : ALIVE);
        }
        same("TAKEN", x.drops(TAKEN), 5);
        same("ALIVE", x.drops(ALIVE), 2);
        same("ASKED", x.drops(ASKED), 1);
        same("UNKNOWN", x.drops(UNKNOWN), 1);
        for (int code : new int[] {OUT, LOST, BAD, REPLAYED, STALE, FOREIGN, OLD}) {
            same("the code " + code, x.drops(code), 0);
        }
    }

    private static void hellos() {
        sentence("5: If e is not b: UNKNOWN", EdgeDeliverTest::helloToAnother);
        String asked = "5: If e is loaded, and PROOF is not MIX(2, c, TAG), c being the COOKIE's c that e would send";
        sentence(asked, EdgeDeliverTest::proofIsRight);
        sentence(asked, EdgeDeliverTest::proofOfAnotherAddress);
        sentence(asked, EdgeDeliverTest::notLoaded);
        sentence("5: and the first that is so decides", EdgeDeliverTest::askedFirst);
        sentence("5: If TAG is not right (with K = MIX(1, SHARED(SECRET of e, X), SHARED(SECRET of e, PUBLIC of a))): BAD",
            EdgeDeliverTest::helloBad);
        sentence("5: and the first that is so decides", EdgeDeliverTest::badBeforeOld);
        sentence("5: If STAMP is not above the greatest one taken from a: OLD", EdgeDeliverTest::old);
        sentence("5: If STAMP is not above the greatest one taken from a: OLD", EdgeDeliverTest::oneAboveIsNotOld);
        sentence("5: NEXT of e for a is, in place of an elder one, the session with the INDEX j",
            EdgeDeliverTest::nextInPlaceOfAnElderOne);
    }

    private static void repliesAndCookies() {
        sentence("5: If e has no HELLO in FLIGHT with the INDEX n: UNKNOWN", EdgeDeliverTest::replyUnknown);
        sentence("5: If TAG is not right (with SHARED(x, Y) and SHARED(SECRET of e, Y) in L): BAD",
            EdgeDeliverTest::replyBad);
        sentence("5: nothing is in FLIGHT to that peer any more; FROM is its KNOWN address", EdgeDeliverTest::replyTaken);
        sentence("5: what was CURRENT (or none) is PREVIOUS", EdgeDeliverTest::currentOrNoneIsPrevious);
        sentence("5: what was CURRENT (or none) is PREVIOUS", EdgeDeliverTest::staleOneIsPrevious);
        sentence("5: and CURRENT is the session with the INDEX n", EdgeDeliverTest::nextStaysBesideAReply);
        sentence("5: Then the WAITING packets are sent (section 6); if there were none, an EMPTY letter is",
            EdgeDeliverTest::waitingByAReply);
        sentence("5: If e has no HELLO in FLIGHT with the INDEX n: UNKNOWN", EdgeDeliverTest::cookieUnknown);
        sentence("5: If TAG is not right (for the peer b to which that went, and its TAG): BAD",
            EdgeDeliverTest::cookieBad);
        sentence("5: Otherwise it is taken: c is kept, as come NOW", EdgeDeliverTest::cookieKept);
    }

    private static void data() {
        sentence("5: If e has no session with the INDEX i: UNKNOWN", EdgeDeliverTest::dataUnknown);
        sentence("5: and the first that is so decides", EdgeDeliverTest::unknownBeforeStale);
        sentence("5: If its age is 30 or more: STALE", EdgeDeliverTest::stale);
        sentence("5: If its age is 30 or more: STALE", EdgeDeliverTest::staleByItsOwnAge);
        sentence("5: and the first that is so decides", EdgeDeliverTest::staleBeforeBad);
        sentence("5: If TAG is not right by its RECEIVING key: BAD", EdgeDeliverTest::dataBad);
        sentence("5: and the first that is so decides", EdgeDeliverTest::badBeforeReplayed);
        sentence("5: If its COUNTER was taken by this session", EdgeDeliverTest::counterTaken);
        sentence("5: If its COUNTER was taken by this session", EdgeDeliverTest::counterOfAnotherSession);
        sentence("5: or is not above the greatest one taken less 16", EdgeDeliverTest::windowOf16);
        sentence("5: (if some was): REPLAYED", EdgeDeliverTest::windowOfTheFirst);
        sentence("5: Otherwise it is taken: its COUNTER is, FROM is KNOWN of that peer", EdgeDeliverTest::fromIsKnown);
        sentence("5: if the session is NEXT, what was CURRENT (or none) is PREVIOUS, this one is CURRENT, NEXT is none",
            EdgeDeliverTest::nextIsCurrent);
        sentence("5: and the WAITING packets are sent", EdgeDeliverTest::waitingByData);
        sentence("5: and the WAITING packets are sent", EdgeDeliverTest::waitingByDataOfNextAlone);
        sentence("5: An EMPTY letter is no more than that: ALIVE", EdgeDeliverTest::alive);
        sentence("5: if the table of e does not give SOURCE to that peer: FOREIGN", EdgeDeliverTest::foreign);
        sentence("5: if the table of e does not give SOURCE to that peer: FOREIGN", EdgeDeliverTest::foreignByNext);
        sentence("5: Otherwise the packet comes OUT of e", EdgeDeliverTest::out);
    }

    public static void main(String[] args) {
        sentence("5: The letter goes from the row", EdgeDeliverTest::goesFromTheRow);
        sentence("5: If no end has the address TO, it is LOST", EdgeDeliverTest::lost);
        sentence("5: Otherwise the end e that has it gets it", EdgeDeliverTest::anotherEndGetsIt);
        hellos();
        repliesAndCookies();
        data();
        sentence("5: OUT 1, ALIVE 2, a HELLO, REPLY or COOKIE taken 3, LOST 0, UNKNOWN -1, BAD -2, REPLAYED -3, STALE -4, "
            + "FOREIGN -5, OLD -6, ASKED -7", EdgeDeliverTest::codes);
        finish();
    }
}
