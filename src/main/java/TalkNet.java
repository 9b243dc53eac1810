import java.util.NoSuchElementException;

/** Groups that talk by turns over a net that may lose, repeat and turn round what is sent. */
public final class TalkNet {
    private static final int GROUPS = 3;
    private static final int MEMBERS = 6;
    private static final int MOST_PRIORITY = 7;
    private static final int MOST_LONGEST = 100;
    private static final int MOST_IDLE = 50;
    private static final int MOST_GRACE = 20;
    private static final int MOST_ON_WAY = 60;
    private static final int MOST_CARRIED = 200;
    private static final int MOST_WAITING = 4;
    private static final int UNITS = 64;
    private static final int WINDOW = 16;
    private static final int TALKER_EVERY = 5;
    private static final int TICKS_BEFORE_PLAY = 2;
    private static final int GAPS_THAT_END = 4;

    private static final int NOBODY = -1;
    private static final int NEVER = -1;
    private static final int GAP = -1;

    private static final int REQUEST = 1;
    private static final int RELEASE = 2;
    private static final int GRANTED = 3;
    private static final int QUEUED = 4;
    private static final int DENIED = 5;
    private static final int REVOKED = 6;
    private static final int ENDED = 7;
    private static final int TALKER = 8;
    private static final int PASSED = 9;
    private static final int GATE = 10;
    private static final int UNIT = 11;

    private static final int STATE_NONE = 0;
    private static final int STATE_ASKED = 1;
    private static final int STATE_QUEUED = 2;
    private static final int STATE_GRANTED = 3;
    private static final int STATE_REVOKED = 4;

    private final Net net;
    private final Party[] parties;
    private final Floor[] floors;
    private final Gate[] gates;
    private int time;

    public TalkNet() {
        net = new Net();
        parties = new Party[GROUPS];
        floors = new Floor[GROUPS];
        gates = new Gate[GROUPS];
        for (int group = 0; group < GROUPS; group++) {
            parties[group] = new Party(net, group);
            floors[group] = new Floor(parties[group]);
            gates[group] = new Gate(parties[group], floors[group]);
        }
    }

    public void rules(int group, boolean preempts, int longest, int idle, int grace)
            throws NoSuchElementException, IllegalArgumentException {
        needGroup(group);
        needArgument(longest, 1, MOST_LONGEST);
        needArgument(idle, 1, MOST_IDLE);
        needArgument(grace, 0, MOST_GRACE);
        floors[group].rules.set(preempts, longest, idle, grace);
    }

    public void member(int group, int member, int priority)
            throws NoSuchElementException, IllegalArgumentException {
        Member who = memberOf(group, member);
        needArgument(priority, 0, MOST_PRIORITY);
        who.there = true;
        who.priority = priority;
    }

    public boolean leave(int group, int member) throws NoSuchElementException {
        Member who = memberOf(group, member);
        if (!who.there) {
            return false;
        }
        // It goes before its floor does, or it would be told of the next talker.
        who.goAway();
        floors[group].takeBack(member, time);
        return true;
    }

    public int press(int group, int member, boolean emergency)
            throws NoSuchElementException, IllegalStateException {
        Member who = memberThere(group, member);
        needState(who.state == STATE_NONE);
        who.request++;
        who.emergency = emergency;
        who.state = STATE_ASKED;
        sendRequest(group, member, who);
        return who.request;
    }

    public void again(int group, int member) throws NoSuchElementException, IllegalStateException {
        Member who = memberThere(group, member);
        needState(who.isAsking());
        sendRequest(group, member, who);
    }

    public void release(int group, int member) throws NoSuchElementException, IllegalStateException {
        Member who = memberThere(group, member);
        needState(who.state != STATE_NONE);
        who.state = STATE_NONE;
        net.send(RELEASE, group, member, who.request, 0, 0);
    }

    public int unit(int group, int member, int value)
            throws NoSuchElementException, IllegalStateException, UnsupportedOperationException {
        Member who = memberThere(group, member);
        needState(who.isTalking());
        if (who.sent >= UNITS) {
            throw new UnsupportedOperationException();
        }
        int number = who.sent;
        who.sent++;
        net.send(UNIT, group, member, who.grant, number, value);
        return number;
    }

    public int messages() {
        return net.count;
    }

    public int message(int k, int what) throws NoSuchElementException, IndexOutOfBoundsException {
        needMessage(k);
        needIndex(what, 6);
        return net.at(k).field(what);
    }

    public void carry(int k) throws NoSuchElementException {
        needMessage(k);
        deliver(net.takeOut(k));
    }

    public void twice(int k) throws NoSuchElementException {
        needMessage(k);
        deliver(net.at(k));
    }

    public void drop(int k) throws NoSuchElementException {
        needMessage(k);
        net.takeOut(k);
    }

    public int run(int n) throws IllegalArgumentException {
        needArgument(n, 0, MOST_CARRIED);
        int carried = 0;
        while (carried < n && net.count > 0) {
            deliver(net.takeOut(0));
            carried++;
        }
        return carried;
    }

    public int tick() {
        time++;
        for (int group = 0; group < GROUPS; group++) {
            floors[group].passTime(time);
            parties[group].play(time);
        }
        return time;
    }

    public int server(int group, int what) throws NoSuchElementException, IndexOutOfBoundsException {
        needGroup(group);
        needIndex(what, 6);
        return floors[group].field(what);
    }

    public int waiting(int group, int place) throws NoSuchElementException, IndexOutOfBoundsException {
        needGroup(group);
        needIndex(place, floors[group].waits);
        return floors[group].row[place];
    }

    public int relay(int group, int what) throws NoSuchElementException, IndexOutOfBoundsException {
        needGroup(group);
        needIndex(what, 4);
        return gates[group].field(what);
    }

    public int about(int group, int member, int what)
            throws NoSuchElementException, IndexOutOfBoundsException {
        Member who = memberOf(group, member);
        needIndex(what, 15);
        return what < 8 ? who.field(what) : who.listener.field(what);
    }

    public int lost() {
        return net.lostOnes;
    }

    private void sendRequest(int group, int member, Member who) {
        net.send(REQUEST, group, member, who.request, who.emergency ? 1 : 0, 0);
    }

    private void deliver(Message m) {
        switch (m.kind) {
            case REQUEST:
                floors[m.group].hearRequest(m.member, m.a, m.b == 1, time);
                break;
            case RELEASE:
                floors[m.group].hearRelease(m.member, m.a, time);
                break;
            case GATE:
                gates[m.group].hearGate(m.a, m.b);
                break;
            case UNIT:
                gates[m.group].hearUnit(m.member, m.a, m.b, m.c, time);
                break;
            default:
                parties[m.group].members[m.member].hear(m, time);
                break;
        }
    }

    private Member memberOf(int group, int member) {
        needGroup(group);
        if (member < 0 || member >= MEMBERS) {
            throw new NoSuchElementException();
        }
        return parties[group].members[member];
    }

    private Member memberThere(int group, int member) {
        Member who = memberOf(group, member);
        needState(who.there);
        return who;
    }

    private void needMessage(int k) {
        if (k < 0 || k >= net.count) {
            throw new NoSuchElementException();
        }
    }

    private static void needGroup(int group) {
        if (group < 0 || group >= GROUPS) {
            throw new NoSuchElementException();
        }
    }

    private static void needArgument(int value, int least, int most) {
        if (value < least || value > most) {
            throw new IllegalArgumentException();
        }
    }

    private static void needIndex(int index, int end) {
        if (index < 0 || index >= end) {
            throw new IndexOutOfBoundsException();
        }
    }

    private static void needState(boolean fits) {
        if (!fits) {
            throw new IllegalStateException();
        }
    }

    private static final class Message {
        int kind;
        int group;
        int member;
        int a;
        int b;
        int c;

        int field(int what) {
            switch (what) {
                case 0: return kind;
                case 1: return group;
                case 2: return member;
                case 3: return a;
                case 4: return b;
                default: return c;
            }
        }
    }

    /** The row of messages on their way. */
    private static final class Net {
        // One slot more than the row holds: a message that was taken out is still read
        // while what it causes is sent, so its slot must be the last to be used again.
        private static final int SLOTS = MOST_ON_WAY + 1;

        final Message[] slots;
        final int[] order;
        int count;
        int lostOnes;

        Net() {
            slots = new Message[SLOTS];
            order = new int[SLOTS];
            for (int i = 0; i < SLOTS; i++) {
                slots[i] = new Message();
                order[i] = i;
            }
        }

        void send(int kind, int group, int member, int a, int b, int c) {
            if (count >= MOST_ON_WAY) {
                lostOnes++;
                return;
            }
            Message m = slots[order[count]];
            count++;
            m.kind = kind;
            m.group = group;
            m.member = member;
            m.a = a;
            m.b = b;
            m.c = c;
        }

        Message at(int k) {
            return slots[order[k]];
        }

        /** The message taken out stays readable until the next one is taken out. */
        Message takeOut(int k) {
            int slot = order[k];
            System.arraycopy(order, k + 1, order, k, SLOTS - 1 - k);
            order[SLOTS - 1] = slot;
            count--;
            return slots[slot];
        }
    }

    private static final class Rules {
        boolean preempts;
        int longest = 50;
        int idle = 20;
        int grace = 5;

        void set(boolean preempts, int longest, int idle, int grace) {
            this.preempts = preempts;
            this.longest = longest;
            this.idle = idle;
            this.grace = grace;
        }

        void copyFrom(Rules other) {
            set(other.preempts, other.longest, other.idle, other.grace);
        }
    }

    /** The members of a group, and the way to tell them something. */
    private static final class Party {
        final Net net;
        final int group;
        final Member[] members;

        Party(Net net, int group) {
            this.net = net;
            this.group = group;
            members = new Member[MEMBERS];
            for (int i = 0; i < MEMBERS; i++) {
                members[i] = new Member();
            }
        }

        void tell(int kind, int member, int a, int b) {
            net.send(kind, group, member, a, b, 0);
        }

        void tellOthers(int kind, int member, int a, int b, int c) {
            for (int i = 0; i < MEMBERS; i++) {
                if (i != member && members[i].there) {
                    net.send(kind, group, i, a, b, c);
                }
            }
        }

        void play(int now) {
            for (int i = 0; i < MEMBERS; i++) {
                if (members[i].there) {
                    members[i].listener.play(now);
                }
            }
        }
    }

    private static final class Member {
        boolean there;
        int priority;
        int state = STATE_NONE;
        int request;
        boolean emergency;
        int place;
        int grant;
        int sent;
        int seenGrant;
        int seenTalker = NOBODY;
        final Listener listener = new Listener();

        boolean isAsking() {
            return state == STATE_ASKED || state == STATE_QUEUED;
        }

        boolean isTalking() {
            return state == STATE_GRANTED || state == STATE_REVOKED;
        }

        void goAway() {
            there = false;
            state = STATE_NONE;
            listener.goesOn = false;
        }

        void hear(Message m, int now) {
            if (!there) {
                return;
            }
            switch (m.kind) {
                case GRANTED:
                case QUEUED:
                case DENIED:
                    hearAnswer(m);
                    break;
                case REVOKED:
                    if (state == STATE_GRANTED && grant == m.a) {
                        state = STATE_REVOKED;
                    }
                    break;
                case ENDED:
                    if (isTalking() && grant == m.a) {
                        state = STATE_NONE;
                    }
                    break;
                case TALKER:
                    hearTalker(m.a, m.b);
                    break;
                default:
                    listener.hear(m.a, m.b, m.c, now);
                    break;
            }
        }

        private void hearAnswer(Message m) {
            if (!isAsking() || m.a != request) {
                return;
            }
            if (m.kind == GRANTED) {
                state = STATE_GRANTED;
                grant = m.b;
                sent = 0;
            } else if (m.kind == QUEUED) {
                state = STATE_QUEUED;
                place = m.b;
            } else {
                state = STATE_NONE;
            }
        }

        private void hearTalker(int ofGrant, int talker) {
            if (ofGrant >= seenGrant) {
                seenGrant = ofGrant;
                seenTalker = talker;
            }
        }

        int field(int what) {
            switch (what) {
                case 0: return there ? 1 : 0;
                case 1: return priority;
                case 2: return state;
                case 3: return request;
                case 4: return place;
                case 5: return grant;
                case 6: return sent;
                default: return seenTalker;
            }
        }
    }

    /** A member's ear: it plays the units of one grant, a spurt, in their order. */
    private static final class Listener {
        int grant;
        boolean goesOn;
        int next;
        int since;
        int gapsInARow;
        int played;
        int gaps;
        int late;
        int sum;
        // Kept numbers lie within a window of 16 from next on: their low bits tell them apart.
        int keptBits;
        final int[] values = new int[WINDOW];

        void hear(int ofGrant, int number, int value, int now) {
            if (ofGrant < grant || ofGrant == grant && !goesOn) {
                late++;
                return;
            }
            if (ofGrant > grant) {
                begin(ofGrant, number, now);
            }
            if (number < next || number >= next + WINDOW || isKept(number)) {
                late++;
                return;
            }
            keptBits |= bitOf(number);
            values[slotOf(number)] = value;
        }

        private void begin(int ofGrant, int number, int now) {
            grant = ofGrant;
            goesOn = true;
            next = number;
            since = now;
            gapsInARow = 0;
            keptBits = 0;
        }

        void play(int now) {
            if (!goesOn || now - since < TICKS_BEFORE_PLAY) {
                return;
            }
            if (isKept(next)) {
                playUnit();
            } else {
                playGap();
            }
            next++;
        }

        private void playUnit() {
            keptBits &= ~bitOf(next);
            played++;
            gapsInARow = 0;
            addToSum(values[slotOf(next)]);
        }

        private void playGap() {
            gaps++;
            gapsInARow++;
            addToSum(GAP);
            if (gapsInARow >= GAPS_THAT_END) {
                goesOn = false;
            }
        }

        private void addToSum(int value) {
            sum = sum * 31 + value;
        }

        private boolean isKept(int number) {
            return (keptBits & bitOf(number)) != 0;
        }

        private static int bitOf(int number) {
            return 1 << slotOf(number);
        }

        private static int slotOf(int number) {
            return number & (WINDOW - 1);
        }

        int field(int what) {
            switch (what) {
                case 8: return grant;
                case 9: return goesOn ? 1 : 0;
                case 10: return next;
                case 11: return played;
                case 12: return gaps;
                case 13: return late;
                default: return sum;
            }
        }
    }

    /** What the server heard last of a member: the request that it holds or waits by, if any. */
    private static final class Claim {
        int number;
        boolean denied;
        boolean emergency;
        int priority;

        void renew(int number, boolean emergency, int priority) {
            this.number = number;
            this.denied = false;
            this.emergency = emergency;
            this.priority = priority;
        }

        boolean isAbove(Claim other) {
            if (emergency != other.emergency) {
                return emergency;
            }
            return priority > other.priority;
        }
    }

    /** The server of one group. */
    private static final class Floor {
        final Party party;
        final Rules rules = new Rules();
        final Rules rulesOfGrant = new Rules();
        final Claim[] claims;
        final int[] row = new int[MOST_WAITING];
        int waits;
        int grants;
        int holder = NOBODY;
        int since = NEVER;
        int revokedAt = NEVER;
        int passedAt = NEVER;

        Floor(Party party) {
            this.party = party;
            claims = new Claim[MEMBERS];
            for (int i = 0; i < MEMBERS; i++) {
                claims[i] = new Claim();
            }
        }

        void hearRequest(int member, int number, boolean emergency, int now) {
            Claim claim = claims[member];
            if (!party.members[member].there || number < claim.number) {
                return;
            }
            if (number == claim.number) {
                answerAgain(member);
                return;
            }
            takeBack(member, now);
            claim.renew(number, emergency, party.members[member].priority);
            if (holder == NOBODY && waits == 0) {
                grantTo(member, now);
            } else if (waits >= MOST_WAITING) {
                claim.denied = true;
                party.tell(DENIED, member, number, 0);
            } else {
                enqueue(member);
                revokeIfBelow(claim, now);
            }
        }

        void hearRelease(int member, int number, int now) {
            Claim claim = claims[member];
            if (number < claim.number) {
                return;
            }
            takeBack(member, now);
            if (number > claim.number) {
                claim.renew(number, false, 0);
            }
        }

        /** What the member holds is freed, what waits of it goes; ENDED is the caller's to send. */
        void takeBack(int member, int now) {
            if (member != holder) {
                goFromRow(placeOf(member));
                return;
            }
            holder = NOBODY;
            since = NEVER;
            revokedAt = NEVER;
            passedAt = NEVER;
            if (waits > 0) {
                int first = row[0];
                goFromRow(0);
                grantTo(first, now);
            } else {
                // The document's member of a GATE with nobody is 0.
                party.tell(GATE, 0, grants, NOBODY);
            }
        }

        void passTime(int now) {
            if (holder != NOBODY && isOver(now)) {
                party.tell(ENDED, holder, grants, 0);
                takeBack(holder, now);
            }
            if (holder != NOBODY && now % TALKER_EVERY == 0) {
                party.tellOthers(TALKER, holder, grants, holder, 0);
            }
        }

        void hearPassed(int grant, int now) {
            if (holder != NOBODY && grant == grants) {
                passedAt = now;
            }
        }

        private boolean isOver(int now) {
            int lastHeard = passedAt == NEVER ? since : passedAt;
            return revokedAt != NEVER && now - revokedAt >= rulesOfGrant.grace
                || now - since >= rulesOfGrant.longest
                || now - lastHeard >= rulesOfGrant.idle;
        }

        private void answerAgain(int member) {
            int number = claims[member].number;
            int place = placeOf(member);
            if (member == holder) {
                party.tell(GRANTED, member, number, grants);
            } else if (place < waits) {
                party.tell(QUEUED, member, number, place);
            } else if (claims[member].denied) {
                party.tell(DENIED, member, number, 0);
            }
        }

        private void grantTo(int member, int now) {
            grants++;
            holder = member;
            since = now;
            rulesOfGrant.copyFrom(rules);
            party.tell(GRANTED, member, claims[member].number, grants);
            party.tell(GATE, member, grants, member);
            party.tellOthers(TALKER, member, grants, member, 0);
        }

        private void enqueue(int member) {
            int place = 0;
            while (place < waits && !claims[member].isAbove(claims[row[place]])) {
                place++;
            }
            for (int i = waits; i > place; i--) {
                row[i] = row[i - 1];
            }
            row[place] = member;
            waits++;
            party.tell(QUEUED, member, claims[member].number, place);
        }

        private void revokeIfBelow(Claim claim, int now) {
            if (holder == NOBODY || !rulesOfGrant.preempts || revokedAt != NEVER) {
                return;
            }
            if (claim.isAbove(claims[holder])) {
                revokedAt = now;
                party.tell(REVOKED, holder, grants, 0);
            }
        }

        /** The member's place in the row, or the row's length if it does not wait. */
        private int placeOf(int member) {
            int place = 0;
            while (place < waits && row[place] != member) {
                place++;
            }
            return place;
        }

        private void goFromRow(int place) {
            if (place >= waits) {
                return;
            }
            waits--;
            for (int i = place; i < waits; i++) {
                row[i] = row[i + 1];
            }
        }

        int field(int what) {
            switch (what) {
                case 0: return grants;
                case 1: return holder;
                case 2: return waits;
                case 3: return revokedAt != NEVER ? 1 : 0;
                case 4: return since;
                default: return passedAt;
            }
        }
    }

    /** The relay of one group: it knows of the floor only what a GATE told it. */
    private static final class Gate {
        final Party party;
        final Floor floor;
        int grant;
        int member = NOBODY;
        int passed;
        int stopped;
        long passedBits;

        Gate(Party party, Floor floor) {
            this.party = party;
            this.floor = floor;
        }

        void hearGate(int ofGrant, int holder) {
            if (ofGrant > grant) {
                grant = ofGrant;
                member = holder;
                passedBits = 0;
            } else if (ofGrant == grant && holder == NOBODY) {
                member = NOBODY;
            }
        }

        void hearUnit(int sender, int ofGrant, int number, int value, int now) {
            if (!lets(sender, ofGrant, number)) {
                stopped++;
                return;
            }
            passed++;
            passedBits |= 1L << number;
            party.tellOthers(PASSED, sender, ofGrant, number, value);
            floor.hearPassed(ofGrant, now);
        }

        private boolean lets(int sender, int ofGrant, int number) {
            return member != NOBODY && sender == member && ofGrant == grant
                && number < UNITS && (passedBits & 1L << number) == 0;
        }

        int field(int what) {
            switch (what) {
                case 0: return grant;
                case 1: return member;
                case 2: return passed;
                default: return stopped;
            }
        }
    }
}
