import java.util.ArrayList;
import java.util.NoSuchElementException;

/** Three ends that send packets to one another through a net that can't be trusted. */
public final class Burrowline {
    public static final int NONE = -1;

    private static final int ENDS = 3;
    private static final int LATEST_TIME = 500000000;
    private static final int MOST_TICKS = 60;
    private static final int MOST_ADDRESS = 99;
    private static final int MOST_INNER = 255;
    private static final int MOST_LOAD = 9999;
    private static final int MOST_BITS = 8;
    private static final int MOST_ROUTES = 8;
    private static final int MOST_LETTERS = 60;
    private static final int MOST_WAITING = 4;
    // An object answers 512 calls, so that no end ever needs to keep more packets than that.
    private static final int MOST_OUTS = 512;
    private static final int MOST_SECRET = 1000000;
    private static final int MOST_TURN = 500;
    private static final int FARTHEST_TURN = 10000;

    private static final int FRESH_AGE = 5;
    private static final int RENEWAL_AGE = 20;
    private static final int SESSION_AGE = 30;
    private static final int COOKIE_AGE = 60;
    private static final int RENEWAL_COUNT = 30;
    private static final int SESSION_COUNT = 40;

    private static final int HELLO = 1;
    private static final int REPLY = 2;
    private static final int COOKIE = 3;
    private static final int DATA = 4;

    private static final int OUT = 1;
    private static final int ALIVE = 2;
    private static final int TAKEN = 3;
    private static final int LOST = 0;
    private static final int UNKNOWN = -1;
    private static final int BAD = -2;
    private static final int REPLAYED = -3;
    private static final int STALE = -4;
    private static final int FOREIGN = -5;
    private static final int OLD = -6;
    private static final int ASKED = -7;
    private static final int LEAST_CODE = -7;
    private static final int MOST_CODE = 3;

    private final End[] ends = new End[ENDS];
    private final ArrayList<Letter> net = new ArrayList<Letter>();
    private final int[] told = new int[MOST_CODE - LEAST_CODE + 1];
    private int time = 0;
    private int lastNumber = 0;
    private int delivered = 0;

    public Burrowline() {
        for (int i = 0; i < ends.length; i++) {
            ends[i] = new End(i);
        }
    }

    // ---- what happens to the house

    public int pass(int ticks) {
        if (ticks < 1 || ticks > MOST_TICKS) {
            throw new IllegalArgumentException("ticks");
        }
        if (time > LATEST_TIME - ticks) {
            throw new IllegalStateException("the end of time");
        }
        time += ticks;
        return time;
    }

    public int move(int end, int address) {
        End mover = endAt(end);
        checkRange(address, 1, MOST_ADDRESS);
        End owner = endWithAddress(address);
        if (owner != null && owner != mover) {
            throw new IllegalArgumentException("another end has the address");
        }
        int before = mover.address;
        mover.address = address;
        return before;
    }

    public boolean load(int end, boolean isLoaded) {
        End changed = endAt(end);
        boolean before = changed.isLoaded;
        changed.isLoaded = isLoaded;
        return before;
    }

    public int allow(int end, int peer, int prefix, int bits) {
        End owner = endAt(end);
        linkAt(end, peer);
        checkRange(prefix, 0, MOST_INNER);
        checkRange(bits, 0, MOST_BITS);
        int top = topBits(prefix, bits);
        int place = owner.placeOfRoute(top, bits);
        if (place == NONE && owner.routes.size() >= MOST_ROUTES) {
            throw new IllegalStateException("the table is full");
        }
        if (place >= 0 && place < owner.routes.size()) {
            owner.routes.get(place).peer = peer;
        } else {
            owner.routes.add(new Route(top, bits, peer));
        }
        return owner.routes.size();
    }

    public int forbid(int end, int prefix, int bits) {
        End owner = endAt(end);
        checkRange(prefix, 0, MOST_INNER);
        checkRange(bits, 0, MOST_BITS);
        int place = owner.placeOfRoute(topBits(prefix, bits), bits);
        if (place < 0 || place >= owner.routes.size()) {
            throw new NoSuchElementException("no such route");
        }
        owner.routes.remove(place);
        return owner.routes.size();
    }

    // ---- what ends send

    public int send(int end, int source, int dest, int load) {
        End sender = endAt(end);
        checkRange(source, 0, MOST_INNER);
        checkRange(dest, 0, MOST_INNER);
        checkRange(load, 0, MOST_LOAD);
        Link link = sender.linkTo(sender.peerFor(dest));
        if (link == null) {
            return NONE;
        }
        Session session = usableOf(link);
        if (session == null) {
            putToWait(link, new Packet(link.peer, source, dest, load));
            greetUnlessFresh(sender, link);
            return 0;
        }
        sendData(sender, link, session, source, dest, load);
        if (wantsRenewal(session)) {
            greetUnlessFresh(sender, link);
        }
        return 1;
    }

    public boolean keep(int end, int peer) {
        Link link = linkAt(end, peer);
        Session session = usableOf(link);
        if (session == null) {
            return false;
        }
        sendData(endAt(end), link, session, NONE, NONE, NONE);
        return true;
    }

    public int greet(int end, int peer) {
        Link link = linkAt(end, peer);
        if (hasFreshHello(link)) {
            throw new IllegalStateException("a fresh hello is in flight");
        }
        return sendHello(endAt(end), link);
    }

    // ---- what the net does

    public int deliver(int letter) {
        Letter got = letterAt(letter);
        net.remove(letter);
        End taker = endWithAddress(got.to);
        int code = LOST;
        if (taker != null) {
            switch (got.kind) {
                case HELLO:
                    code = takeHello(taker, got);
                    break;
                case REPLY:
                    code = takeReply(taker, got);
                    break;
                case COOKIE:
                    code = takeCookie(taker, got);
                    break;
                default:
                    code = takeData(taker, got);
                    break;
            }
        }
        delivered++;
        int place = code - LEAST_CODE;
        if (place >= 0 && place < told.length) {
            told[place]++;
        }
        return code;
    }

    public int lose(int letter) {
        letterAt(letter);
        net.remove(letter);
        return net.size();
    }

    public int twice(int letter) {
        Letter first = letterAt(letter);
        if (net.size() >= MOST_LETTERS) {
            throw new IllegalStateException("the net is full");
        }
        net.add(first.twin());
        return net.size();
    }

    public int turn(int letter, int field, int by) {
        Letter turned = letterAt(letter);
        if (!turned.canTurn(field)) {
            throw new IllegalArgumentException("the field can't be turned");
        }
        checkRange(by, -MOST_TURN, MOST_TURN);
        if (by == 0) {
            throw new IllegalArgumentException("by is 0");
        }
        if (turned.turnedField == field) {
            int distance = turned.fieldAt(field) + by - turned.original;
            checkRange(distance, -FARTHEST_TURN, FARTHEST_TURN);
        } else if (turned.turnedField != NONE) {
            throw new IllegalStateException("another field was turned before");
        }
        return turned.turnBy(field, by);
    }

    public int reroute(int letter, int address) {
        Letter rerouted = letterAt(letter);
        checkRange(address, 1, MOST_ADDRESS);
        int before = rerouted.from;
        rerouted.from = address;
        return before;
    }

    public int later(int letter) {
        Letter moved = letterAt(letter);
        net.remove(letter);
        net.add(moved);
        return net.size() - 1;
    }

    // ---- what can be asked

    public int now() {
        return time;
    }

    public int letters() {
        return net.size();
    }

    public int letter(int letter, int what) {
        Letter asked = letterAt(letter);
        checkRange(what, 0, 2 + Letter.FIELDS);
        switch (what) {
            case 0:
                return asked.from;
            case 1:
                return asked.to;
            case 2:
                return asked.kind;
            default:
                return asked.fieldAt(what - 3);
        }
    }

    public boolean isTurned(int letter) {
        return letterAt(letter).differs();
    }

    public int address(int end) {
        return endAt(end).address;
    }

    public int known(int end, int peer) {
        return linkAt(end, peer).known;
    }

    public int route(int end, int inner) {
        End asked = endAt(end);
        checkRange(inner, 0, MOST_INNER);
        return asked.peerFor(inner);
    }

    public int session(int end, int peer, int which, int what) {
        Link link = linkAt(end, peer);
        checkRange(which, 0, Link.SLOTS - 1);
        checkRange(what, 0, 8);
        Session asked = link.sessionAt(which);
        if (asked == null) {
            throw new NoSuchElementException("no such session");
        }
        return sessionPart(asked, what);
    }

    public boolean isUsable(int end, int peer) {
        return usableOf(linkAt(end, peer)) != null;
    }

    public int flight(int end, int peer) {
        return linkAt(end, peer).flightIndex();
    }

    public int waiting(int end, int peer) {
        return linkAt(end, peer).waiting.size();
    }

    public int cookie(int end, int peer) {
        return youngCookie(linkAt(end, peer));
    }

    public int stamp(int end, int peer, boolean isSent) {
        Link link = linkAt(end, peer);
        return isSent ? link.stampSent : link.stampTaken;
    }

    public int outs(int end) {
        return endAt(end).outs.size();
    }

    public int out(int end, int place, int what) {
        End asked = endAt(end);
        if (place < 0 || place >= asked.outs.size()) {
            throw new IndexOutOfBoundsException("no such place");
        }
        checkRange(what, 0, 3);
        Packet packet = asked.outs.get(place);
        switch (what) {
            case 0:
                return packet.peer;
            case 1:
                return packet.source;
            case 2:
                return packet.dest;
            default:
                return packet.load;
        }
    }

    public int drops(int code) {
        checkRange(code, LEAST_CODE, MOST_CODE);
        return told[code - LEAST_CODE];
    }

    public int publicOf(int secret) {
        checkRange(secret, 0, MOST_SECRET);
        return Numbers.publicNumber(secret);
    }

    public int shared(int secret, int number) {
        checkRange(secret, 0, MOST_SECRET);
        checkRange(number, 1, Numbers.P - 1);
        return Numbers.power(number, secret);
    }

    public int seal(int key, int first, int second, int third) {
        checkRange(key, 1, Numbers.Q - 1);
        checkRange(first, NONE, MOST_LOAD);
        checkRange(second, NONE, MOST_LOAD);
        checkRange(third, NONE, MOST_LOAD);
        int[] others = {second, third};
        return Numbers.sealOf(key, first, others, others.length);
    }

    public float share() {
        if (delivered == 0) {
            return 0;
        }
        return (float) drops(OUT) / (float) delivered;
    }

    public double meanAge() {
        long ages = 0;
        int count = 0;
        for (End end : ends) {
            for (Link link : end.links) {
                if (link.current != null) {
                    ages += ageOf(link.current);
                    count++;
                }
            }
        }
        if (count == 0) {
            return 0;
        }
        return (double) ages / (double) count;
    }

    public boolean isSound() {
        for (int i = 0; i < net.size(); i++) {
            Letter lying = net.get(i);
            if (lying.differs() && lying.isRightBy(lying.key)) {
                return false;
            }
        }
        int places = ENDS * ENDS * Link.SLOTS;
        for (int i = 0; i < places; i++) {
            Session one = sessionInHouse(i);
            if (one != null && !(isSoundAlone(one) && isSoundBeside(one, i))) {
                return false;
            }
        }
        return true;
    }

    public long checksum() {
        long sum = Numbers.added(31, time);
        for (End end : ends) {
            sum = Numbers.added(sum, end.address);
            sum = Numbers.added(sum, end.isLoaded ? 1 : 0);
            sum = Numbers.added(sum, end.routes.size());
        }
        for (End end : ends) {
            for (Link link : end.links) {
                if (link.peer != end.number) {
                    sum = sumWithLink(sum, link);
                }
            }
        }
        for (End end : ends) {
            sum = sumWithOuts(sum, end);
        }
        for (int i = 0; i < net.size(); i++) {
            sum = sumWithLetter(sum, net.get(i));
        }
        for (int count : told) {
            sum = Numbers.added(sum, count);
        }
        return sum;
    }

    // ---- looking at arguments

    private End endAt(int end) {
        if (end < 0 || end >= ends.length) {
            throw new IndexOutOfBoundsException("no such end");
        }
        return ends[end];
    }

    private Link linkAt(int end, int peer) {
        Link link = endAt(end).linkTo(peer);
        if (link == null) {
            throw new IndexOutOfBoundsException("no such peer");
        }
        if (peer == end) {
            throw new IllegalArgumentException("the peer is the end itself");
        }
        return link;
    }

    private Letter letterAt(int letter) {
        if (letter < 0 || letter >= net.size()) {
            throw new IndexOutOfBoundsException("no such letter");
        }
        return net.get(letter);
    }

    private static void checkRange(int number, int least, int most) {
        if (number < least || number > most) {
            throw new IllegalArgumentException("out of range");
        }
    }

    private static int topBits(int prefix, int bits) {
        return prefix & (0xFF00 >> bits) & 0xFF;
    }

    private End endWithAddress(int address) {
        for (End end : ends) {
            if (end.address == address) {
                return end;
            }
        }
        return null;
    }

    // ---- ages

    private int ageOf(Session session) {
        return time - session.made;
    }

    private Session usableOf(Link link) {
        Session session = link.current;
        if (session == null || ageOf(session) >= SESSION_AGE || session.sealed >= SESSION_COUNT) {
            return null;
        }
        return session;
    }

    private boolean wantsRenewal(Session session) {
        return session.began && (ageOf(session) >= RENEWAL_AGE || session.sealed >= RENEWAL_COUNT);
    }

    private boolean hasFreshHello(Link link) {
        return link.flight != null && time - link.flight.sent < FRESH_AGE;
    }

    private int youngCookie(Link link) {
        return time - link.cookieCame < COOKIE_AGE ? link.cookie : NONE;
    }

    // ---- sending

    private void post(Letter letter) {
        if (net.size() < MOST_LETTERS) {
            net.add(letter);
        }
    }

    private void putToWait(Link link, Packet packet) {
        if (link.waiting.size() >= MOST_WAITING) {
            link.waiting.remove(0);
        }
        link.waiting.add(packet);
    }

    private void greetUnlessFresh(End end, Link link) {
        if (!hasFreshHello(link)) {
            sendHello(end, link);
        }
    }

    private int sendHello(End end, Link link) {
        lastNumber++;
        int secret = Numbers.secretOf(lastNumber);
        link.stampSent = Math.max(4 * time, link.stampSent + 1);
        Letter hello = new Letter(HELLO, end.address, link.known);
        hello.put(0, lastNumber);
        hello.put(1, Numbers.publicNumber(secret));
        hello.put(2, 10 * end.number + link.peer);
        hello.put(3, link.stampSent);
        int tag = hello.sealWith(helloKey(link, Numbers.power(link.peerPublic, secret)));
        int cookie = youngCookie(link);
        hello.put(5, cookie == NONE ? 0 : Numbers.mix(2, cookie, tag));
        link.flight = new Flight(lastNumber, secret, tag, time);
        post(hello);
        return lastNumber;
    }

    /** Sends the reply to a hello, and makes the session that the reply offers. */
    private void sendReply(End end, Link link, Letter hello, int helloKey) {
        lastNumber++;
        int secret = Numbers.secretOf(lastNumber);
        Letter reply = new Letter(REPLY, end.address, link.known);
        reply.put(0, lastNumber);
        reply.put(1, hello.fieldAt(0));
        reply.put(2, Numbers.publicNumber(secret));
        int freshShared = Numbers.power(hello.fieldAt(1), secret);
        int halfShared = Numbers.power(link.peerPublic, secret);
        int key = Numbers.mixOfFour(4, helloKey, freshShared, halfShared);
        reply.sealWith(key);
        post(reply);
        link.next = new Session(lastNumber, hello.fieldAt(0), time, false, key);
    }

    private void sendCookie(End end, Letter hello, int cookie) {
        Letter answer = new Letter(COOKIE, end.address, hello.from);
        answer.put(0, hello.fieldAt(0));
        answer.put(1, cookie);
        answer.sealWith(Numbers.mix(3, Numbers.publicNumber(end.secret), hello.tag()));
        post(answer);
    }

    private void sendData(End end, Link link, Session session, int source, int dest, int load) {
        Letter data = new Letter(DATA, end.address, link.known);
        data.put(0, session.other);
        data.put(1, session.sealed);
        data.put(2, source);
        data.put(3, dest);
        data.put(4, load);
        data.sealWith(session.sending);
        session.sealed++;
        post(data);
    }

    private void sendWaiting(End end, Link link) {
        for (int left = link.waiting.size(); left > 0; left--) {
            Session session = usableOf(link);
            if (session == null || link.waiting.isEmpty()) {
                return;
            }
            Packet packet = link.waiting.remove(0);
            sendData(end, link, session, packet.source, packet.dest, packet.load);
        }
    }

    private static int helloKey(Link link, int freshShared) {
        return Numbers.mix(1, freshShared, link.lastingShared);
    }

    // ---- taking what is delivered

    private int takeHello(End end, Letter hello) {
        int way = hello.fieldAt(2);
        Link link = end.linkTo(way / 10);
        if (link == null || way % 10 != end.number) {
            return UNKNOWN;
        }
        int cookie = Numbers.mixOfFour(6, end.secret, time / COOKIE_AGE, hello.from);
        if (end.isLoaded && hello.fieldAt(5) != Numbers.mix(2, cookie, hello.tag())) {
            sendCookie(end, hello, cookie);
            return ASKED;
        }
        int key = helloKey(link, Numbers.power(hello.fieldAt(1), end.secret));
        if (!hello.isRightBy(key)) {
            return BAD;
        }
        if (hello.fieldAt(3) <= link.stampTaken) {
            return OLD;
        }
        link.stampTaken = hello.fieldAt(3);
        link.known = hello.from;
        sendReply(end, link, hello, key);
        return TAKEN;
    }

    private int takeReply(End end, Letter reply) {
        Link link = end.linkWithFlight(reply.fieldAt(1));
        if (link == null || link.flight == null) {
            return UNKNOWN;
        }
        Flight flight = link.flight;
        int answered = helloKey(link, Numbers.power(link.peerPublic, flight.secret));
        int freshShared = Numbers.power(reply.fieldAt(2), flight.secret);
        int halfShared = Numbers.power(reply.fieldAt(2), end.secret);
        int key = Numbers.mixOfFour(4, answered, freshShared, halfShared);
        if (!reply.isRightBy(key)) {
            return BAD;
        }
        Session begun = new Session(flight.index, reply.fieldAt(0), time, true, key);
        link.flight = null;
        link.known = reply.from;
        link.previous = link.current;
        link.current = begun;
        if (link.waiting.isEmpty()) {
            sendData(end, link, begun, NONE, NONE, NONE);
        } else {
            sendWaiting(end, link);
        }
        return TAKEN;
    }

    private int takeCookie(End end, Letter answer) {
        Link link = end.linkWithFlight(answer.fieldAt(0));
        if (link == null || link.flight == null) {
            return UNKNOWN;
        }
        if (!answer.isRightBy(Numbers.mix(3, link.peerPublic, link.flight.tag))) {
            return BAD;
        }
        link.cookie = answer.fieldAt(1);
        link.cookieCame = time;
        return TAKEN;
    }

    private int takeData(End end, Letter data) {
        Link link = end.linkWithSession(data.fieldAt(0));
        Session session = link == null ? null : link.sessionWith(data.fieldAt(0));
        if (session == null) {
            return UNKNOWN;
        }
        if (ageOf(session) >= SESSION_AGE) {
            return STALE;
        }
        if (!data.isRightBy(session.receiving)) {
            return BAD;
        }
        if (!session.canTake(data.fieldAt(1))) {
            return REPLAYED;
        }
        session.take(data.fieldAt(1));
        link.known = data.from;
        if (session == link.next) {
            link.previous = link.current;
            link.current = session;
            link.next = null;
            sendWaiting(end, link);
        }
        return bringOut(end, link, data);
    }

    private int bringOut(End end, Link link, Letter data) {
        int source = data.fieldAt(2);
        // Only an empty letter has a source below 0: a turned one would not have come so far.
        if (source == NONE) {
            return ALIVE;
        }
        if (end.peerFor(source) != link.peer) {
            return FOREIGN;
        }
        if (end.outs.size() < MOST_OUTS) {
            end.outs.add(new Packet(link.peer, source, data.fieldAt(3), data.fieldAt(4)));
        }
        return OUT;
    }

    // ---- telling

    private int sessionPart(Session session, int what) {
        switch (what) {
            case 0:
                return session.index;
            case 1:
                return session.other;
            case 2:
                return ageOf(session);
            case 3:
                return session.sealed;
            case 4:
                return session.greatest;
            case 5:
                return session.took;
            case 6:
                return session.sending;
            case 7:
                return session.receiving;
            default:
                return session.began ? 1 : 0;
        }
    }

    /** Counts through all places of the house where a session can stand; null where none does. */
    private Session sessionInHouse(int place) {
        int end = place / (ENDS * Link.SLOTS);
        if (end < 0 || end >= ends.length) {
            return null;
        }
        Link link = ends[end].linkTo(place / Link.SLOTS % ENDS);
        return link == null ? null : link.sessionAt(place % Link.SLOTS);
    }

    private static boolean isSoundAlone(Session session) {
        boolean isOnce = Long.bitCount(session.taken) == session.took;
        // Two shifts, since one by 64 would be one by 0.
        boolean isTopped = session.taken >>> session.greatest >>> 1 == 0;
        if (session.greatest < 0) {
            isTopped = session.taken == 0;
        }
        return session.sealed <= SESSION_COUNT && isOnce && isTopped;
    }

    private boolean isSoundBeside(Session one, int place) {
        for (int i = 0; i < place; i++) {
            Session two = sessionInHouse(i);
            if (two != null && (one.index == two.index || !isSoundPair(one, two))) {
                return false;
            }
        }
        return true;
    }

    private static boolean isSoundPair(Session one, Session two) {
        if (one.other != two.index || two.other != one.index) {
            return true;
        }
        boolean isCrosswise = one.sending == two.receiving && one.receiving == two.sending;
        return isCrosswise && one.began != two.began;
    }

    private long sumWithLink(long before, Link link) {
        long sum = Numbers.added(before, link.known);
        sum = Numbers.added(sum, link.flightIndex());
        sum = Numbers.added(sum, link.stampTaken);
        sum = Numbers.added(sum, link.waiting.size());
        for (int i = 0; i < Link.SLOTS; i++) {
            Session session = link.sessionAt(i);
            if (session == null) {
                sum = Numbers.added(sum, NONE);
            } else {
                sum = Numbers.added(sum, session.index);
                sum = Numbers.added(sum, session.sending);
                sum = Numbers.added(sum, session.sealed);
                sum = Numbers.added(sum, session.took);
            }
        }
        return sum;
    }

    private static long sumWithOuts(long before, End end) {
        long sum = Numbers.added(before, end.outs.size());
        for (int i = 0; i < end.outs.size(); i++) {
            sum = Numbers.added(sum, end.outs.get(i).load);
        }
        return sum;
    }

    private static long sumWithLetter(long before, Letter letter) {
        long sum = Numbers.added(before, letter.from);
        sum = Numbers.added(sum, letter.to);
        sum = Numbers.added(sum, letter.kind);
        for (int field : letter.fields) {
            sum = Numbers.added(sum, field);
        }
        return sum;
    }

    /** The arithmetic of keys and seals. */
    private static final class Numbers {
        static final int P = 2039;
        static final int G = 7;
        static final int Q = 65521;

        static int power(int base, int exponent) {
            int result = 1;
            for (int bit = 30; bit >= 0; bit--) {
                result = result * result % P;
                if ((exponent >> bit & 1) == 1) {
                    result = result * base % P;
                }
            }
            return result;
        }

        static int publicNumber(int secret) {
            return power(G, secret);
        }

        static int secretOf(int number) {
            return 1 + (int) Math.floorMod(577L * number, 1018L);
        }

        static int secretOfEnd(int end) {
            return 211 + 307 * end;
        }

        static int mix(int first, int second, int third) {
            return neverZero(mixed(mixed(mixed(17, first), second), third));
        }

        static int mixOfFour(int first, int second, int third, int fourth) {
            return neverZero(mixed(mixed(mixed(mixed(17, first), second), third), fourth));
        }

        private static int mixed(int before, int number) {
            return (int) Math.floorMod(31L * before + number + 2, (long) Q);
        }

        private static int neverZero(int mixed) {
            return mixed == 0 ? 1 : mixed;
        }

        /** The seal of one number and of as many others as are counted. */
        static int sealOf(int key, int first, int[] others, int count) {
            long seal = 0;
            for (int i = Math.min(count, others.length) - 1; i >= 0; i--) {
                seal = Math.floorMod((seal + others[i] + 2) * key, (long) Q);
            }
            return (int) Math.floorMod((seal + first + 2) * key, (long) Q);
        }

        static long added(long sum, int number) {
            return 31 * sum + number;
        }
    }

    private static final class End {
        final int number;
        final int secret;
        final Link[] links = new Link[ENDS];
        final ArrayList<Route> routes = new ArrayList<Route>();
        final ArrayList<Packet> outs = new ArrayList<Packet>();
        int address;
        boolean isLoaded = false;

        End(int number) {
            this.number = number;
            this.secret = Numbers.secretOfEnd(number);
            this.address = 10 + 10 * number;
            // The link to the end itself stays idle; so no place of the row is ever null.
            for (int i = 0; i < links.length; i++) {
                links[i] = new Link(i, secret);
            }
        }

        Link linkTo(int peer) {
            return peer >= 0 && peer < links.length ? links[peer] : null;
        }

        Link linkWithFlight(int index) {
            for (Link link : links) {
                if (link.flight != null && link.flight.index == index) {
                    return link;
                }
            }
            return null;
        }

        Link linkWithSession(int index) {
            for (Link link : links) {
                if (link.sessionWith(index) != null) {
                    return link;
                }
            }
            return null;
        }

        int placeOfRoute(int prefix, int bits) {
            for (int i = 0; i < routes.size(); i++) {
                Route route = routes.get(i);
                if (route.prefix == prefix && route.bits == bits) {
                    return i;
                }
            }
            return NONE;
        }

        int peerFor(int inner) {
            int peer = NONE;
            int mostBits = NONE;
            for (int i = 0; i < routes.size(); i++) {
                Route route = routes.get(i);
                if (route.bits > mostBits && topBits(inner, route.bits) == route.prefix) {
                    peer = route.peer;
                    mostBits = route.bits;
                }
            }
            return peer;
        }
    }

    private static final class Route {
        final int prefix;
        final int bits;
        int peer;

        Route(int prefix, int bits, int peer) {
            this.prefix = prefix;
            this.bits = bits;
            this.peer = peer;
        }
    }

    /** What an end has for one peer. */
    private static final class Link {
        static final int SLOTS = 3;

        final int peer;
        final int peerPublic;
        final int lastingShared;
        final ArrayList<Packet> waiting = new ArrayList<Packet>();
        int known;
        Session previous = null;
        Session current = null;
        Session next = null;
        Flight flight = null;
        int stampTaken = 0;
        int stampSent = 0;
        int cookie = NONE;
        int cookieCame = 0;

        Link(int peer, int ownSecret) {
            this.peer = peer;
            this.peerPublic = Numbers.publicNumber(Numbers.secretOfEnd(peer));
            this.lastingShared = Numbers.power(peerPublic, ownSecret);
            this.known = 10 + 10 * peer;
        }

        Session sessionAt(int which) {
            switch (which) {
                case 0:
                    return previous;
                case 1:
                    return current;
                default:
                    return next;
            }
        }

        Session sessionWith(int index) {
            for (int i = 0; i < SLOTS; i++) {
                Session session = sessionAt(i);
                if (session != null && session.index == index) {
                    return session;
                }
            }
            return null;
        }

        int flightIndex() {
            return flight == null ? NONE : flight.index;
        }
    }

    /** A hello that no reply was taken for yet. */
    private static final class Flight {
        final int index;
        final int secret;
        final int tag;
        final int sent;

        Flight(int index, int secret, int tag, int sent) {
            this.index = index;
            this.secret = secret;
            this.tag = tag;
            this.sent = sent;
        }
    }

    private static final class Session {
        private static final int WINDOW = 16;

        final int index;
        final int other;
        final int made;
        final boolean began;
        final int sending;
        final int receiving;
        int sealed = 0;
        int took = 0;
        int greatest = NONE;
        // Bit c stands for the counter c: a session seals 40 letters at most, so a long has room.
        long taken = 0;

        Session(int index, int other, int made, boolean began, int key) {
            this.index = index;
            this.other = other;
            this.made = made;
            this.began = began;
            this.sending = Numbers.mix(5, key, began ? 0 : 1);
            this.receiving = Numbers.mix(5, key, began ? 1 : 0);
        }

        boolean canTake(int counter) {
            if (counter < 0 || counter >= SESSION_COUNT || (taken >>> counter & 1) == 1) {
                return false;
            }
            return greatest == NONE || counter > greatest - WINDOW;
        }

        void take(int counter) {
            taken |= 1L << counter;
            took++;
            greatest = Math.max(greatest, counter);
        }
    }

    private static final class Packet {
        final int peer;
        final int source;
        final int dest;
        final int load;

        Packet(int peer, int source, int dest, int load) {
            this.peer = peer;
            this.source = source;
            this.dest = dest;
            this.load = load;
        }
    }

    private static final class Letter {
        static final int FIELDS = 6;

        final int kind;
        final int to;
        final int tagPlace;
        final int[] fields = new int[FIELDS];
        int from;
        int key = 1;
        int turnedField = NONE;
        int original = 0;

        Letter(int kind, int from, int to) {
            this.kind = kind;
            this.from = from;
            this.to = to;
            this.tagPlace = tagPlaceOf(kind);
        }

        private static int tagPlaceOf(int kind) {
            switch (kind) {
                case HELLO:
                    return 4;
                case REPLY:
                    return 3;
                case COOKIE:
                    return 2;
                default:
                    return 5;
            }
        }

        Letter twin() {
            Letter twin = new Letter(kind, from, to);
            for (int i = 0; i < FIELDS; i++) {
                twin.put(i, fieldAt(i));
            }
            twin.key = key;
            twin.turnedField = turnedField;
            twin.original = original;
            return twin;
        }

        int fieldAt(int field) {
            return field >= 0 && field < fields.length ? fields[field] : 0;
        }

        void put(int field, int value) {
            if (field >= 0 && field < fields.length) {
                fields[field] = value;
            }
        }

        int tag() {
            return fieldAt(tagPlace);
        }

        /** Puts the tag in its place and answers it; the fields before it must stand. */
        int sealWith(int sealingKey) {
            key = sealingKey;
            int tag = Numbers.sealOf(sealingKey, kind, fields, tagPlace);
            put(tagPlace, tag);
            return tag;
        }

        boolean isRightBy(int sealingKey) {
            return tag() == Numbers.sealOf(sealingKey, kind, fields, tagPlace);
        }

        boolean canTurn(int field) {
            switch (kind) {
                case HELLO:
                    return field == 3 || field == 4;
                case REPLY:
                    return field == 3;
                case COOKIE:
                    return field == 1 || field == 2;
                default:
                    return field >= 1 && field <= 5;
            }
        }

        int turnBy(int field, int by) {
            if (turnedField == NONE) {
                turnedField = field;
                original = fieldAt(field);
            }
            put(field, fieldAt(field) + by);
            return fieldAt(field);
        }

        boolean differs() {
            return turnedField != NONE && fieldAt(turnedField) != original;
        }
    }
}
