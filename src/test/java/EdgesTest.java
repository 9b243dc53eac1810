/**
 * The boundaries that the document's Terms name, sentence by sentence, each at the boundary and on
 * both sides of it. Those of the calls' arguments are in ArgumentsTest.
 */
public final class EdgesTest {
    private static final Check check = new Check();

    public static void main(String[] args) {
        mostOnTheirWay();
        grantIntoAFullRow();
        passedIntoAFullRow();
        twiceIntoAFullRow();
        tickIntoAFullRow();
        goneIsNotLost();
        mostCarriedByARun();
        mostWaiting();
        deniedThenPlace();
        leastAndGreatestPriority();
        oneAboveTheHolder();
        requestNumbers();
        equalOfSmallerMember();
        releaseNumbers();
        releaseIsNoGate();
        gateNumbers();
        equalGateOfSomebody();
        newerUnitOfTheSameMember();
        lastUnitNumber();
        longest();
        idle();
        grace();
        graceOfNone();
        firstOfThreeEnds();
        endedTellsNoTalker();
        talkerNumbers();
        everyFifthTick();
        sinceTwoTicks();
        othersNotThere();
        spurtNumbers();
        sixteenAbove();
        sixteenAboveAtTheEnd();
        fourGaps();
        minusOneIsNoGap();
        sumWrapsAround();
        leaveEndsTheSpurt();
        leaveOfARevokedHolder();
        allLeave();
        aloneInAGroup();
        objectsShareNothing();
        check.end();
    }

    /** A talker, alone or among n, with so many units on their way. */
    private static TalkNet withUnits(int n, int units) {
        TalkNet x = Check.withTalker(0, n);
        for (int i = 0; i < units; i++) {
            x.unit(0, 0, 100 + i);
        }
        return x;
    }

    private static String counts(TalkNet x) {
        return x.messages() + " " + x.lost();
    }

    private static void mostOnTheirWay() {
        check.part("at most 60: one that would be the next is lost");
        TalkNet x = withUnits(1, 59);
        check.same("59", counts(x), "59 0");
        x.unit(0, 0, 7);
        check.same("60", counts(x), "60 0");
        String before = Check.row(x);
        x.unit(0, 0, 8);
        check.same("61", counts(x), "60 1");
        check.same("the row stays", Check.row(x), before);
        x.unit(0, 0, 9);
        check.same("62", counts(x), "60 2");
        x.drop(17);
        check.same("one goes", counts(x), "59 2");
        check.same("the next has its number", x.unit(0, 0, 10), 62);
        check.same("and fits", counts(x) + " " + x.message(59, 4), "60 2 62");
        x.release(0, 0);
        check.same("a RELEASE is lost", counts(x), "60 3");
        x.run(200);
        check.same("the server did not hear it", x.server(0, 1), 0);
    }

    /** GRANTED, GATE and two TALKERs, where a REQUEST finds the row with so many others. */
    private static TalkNet grantAmong(int others) {
        TalkNet x = withUnits(1, others);
        for (int member = 0; member < 3; member++) {
            x.member(1, member, 0);
        }
        x.press(1, 1, false);
        x.carry(others);
        return x;
    }

    private static void grantIntoAFullRow() {
        check.part("what a grant sends, when the row gets full");
        int[][] due = {{56, 60, 0}, {57, 60, 1}, {58, 60, 2}, {59, 60, 3}};
        for (int[] d : due) {
            TalkNet x = grantAmong(d[0]);
            check.same("among " + d[0], counts(x), d[1] + " " + d[2]);
            check.same("GRANTED is the first of them", x.message(d[0], 0), 3);
            check.same("it holds the floor all the same", Check.server(x, 1), "1 1 0 0 0 -1");
        }
        check.same("all four fit", Check.row(grantAmong(56)).endsWith(
            "; GRANTED 1/1 1 1 0; GATE 1/1 1 1 0; TALKER 1/0 1 1 0; TALKER 1/2 1 1 0"), true);
        check.same("the last is lost", Check.row(grantAmong(57)).endsWith("; GATE 1/1 1 1 0; TALKER 1/0 1 1 0"), true);
    }

    private static void passedIntoAFullRow() {
        check.part("what a UNIT sends, when the row gets full");
        int[][] due = {{58, 59, 0}, {59, 60, 0}, {60, 60, 1}};
        for (int[] d : due) {
            TalkNet x = withUnits(3, d[0]);
            x.carry(0);
            check.same("of " + d[0], counts(x), d[1] + " " + d[2]);
            check.same("it is passed all the same", Check.relay(x, 0) + ", " + x.server(0, 5), "1 0 1 0, 0");
        }
    }

    private static void twiceIntoAFullRow() {
        check.part("a message that stays takes its place in the row");
        int[][] due = {{57, 59, 0}, {58, 60, 0}, {59, 60, 1}, {60, 60, 2}};
        for (int[] d : due) {
            TalkNet x = withUnits(3, d[0]);
            x.twice(0);
            check.same("of " + d[0], counts(x), d[1] + " " + d[2]);
        }
    }

    private static void tickIntoAFullRow() {
        check.part("what a tick sends, when the row gets full");
        int[][] due = {{57, 60, 0}, {58, 60, 1}, {59, 60, 2}, {60, 60, 3}};
        for (int[] d : due) {
            TalkNet x = withUnits(4, d[0]);
            Check.ticks(x, 5);
            check.same("three TALKERs to " + d[0], counts(x), d[1] + " " + d[2]);
        }
        TalkNet y = withUnits(1, 59);
        Check.ticks(y, 20);
        check.same("ENDED fits, GATE is lost", counts(y) + " " + y.message(59, 0), "60 1 7");
        check.same("the floor is free all the same", y.server(0, 1), -1);
        y.run(200);
        check.same("the relay was not told", y.relay(0, 1), 0);
    }

    private static void goneIsNotLost() {
        check.part("what is dropped, or comes to one that is not there, is not lost");
        TalkNet x = withUnits(3, 2);
        x.leave(0, 0);
        x.leave(0, 1);
        x.leave(0, 2);
        x.drop(0);
        x.run(200);
        check.same("messages and lost", counts(x), "0 0");
    }

    /** 60 units make place for one PASSED each, which makes nothing more: no run is longer than 120. */
    private static void mostCarriedByARun() {
        check.part("run, at the number that are there in the end");
        int[][] due = {{59, 59, 60}, {60, 60, 60}, {61, 61, 59}, {119, 119, 1}, {120, 120, 0}, {121, 120, 0}, {200, 120, 0}};
        for (int[] d : due) {
            TalkNet x = withUnits(2, 60);
            check.same("run " + d[0], x.run(d[0]) + " " + x.messages(), d[1] + " " + d[2]);
        }
    }

    /** Member 0 talks, 1 .. wait have asked and wait. */
    private static TalkNet withWaiting(int wait) {
        TalkNet x = Check.withTalker(0, 6);
        for (int member = 1; member <= wait; member++) {
            x.press(0, member, false);
        }
        x.run(200);
        return x;
    }

    private static void mostWaiting() {
        check.part("a row that waits, 4 at most");
        for (int wait = 0; wait < 4; wait++) {
            TalkNet x = withWaiting(wait);
            x.press(0, 5, false);
            x.carry(0);
            check.same("when " + wait + " wait", Check.row(x), "QUEUED 0/5 1 " + wait + " 0");
            check.same("how many wait", x.server(0, 2), wait + 1);
            check.same("at the end", x.waiting(0, wait), 5);
        }
        TalkNet full = withWaiting(4);
        full.press(0, 5, false);
        full.carry(0);
        check.same("when 4 wait", Check.row(full), "DENIED 0/5 1 0 0");
        check.same("the row stays", Check.waiting(full, 0), "1 2 3 4");
        full.run(200);
        check.same("it has none", Check.about(full, 0, 5, 2, 4), "0 1 0");
    }

    private static void deniedThenPlace() {
        check.part("4 waited, and one goes");
        TalkNet x = withWaiting(4);
        x.press(0, 5, false);
        x.run(200);
        x.release(0, 4);
        x.run(200);
        check.same("who was denied does not wait", Check.waiting(x, 0), "1 2 3");
        check.same("the next number", x.press(0, 5, false), 2);
        x.run(200);
        check.same("now there is a place", Check.waiting(x, 0) + ", " + Check.about(x, 0, 5, 2, 4), "1 2 3 5, 2 2 3");
        TalkNet y = withWaiting(4);
        y.leave(0, 0);
        y.run(200);
        check.same("the first one talks", y.server(0, 1) + ", " + Check.waiting(y, 0), "1, 2 3 4");
        y.press(0, 5, false);
        y.run(200);
        check.same("and there is a place", Check.waiting(y, 0), "2 3 4 5");
    }

    private static void leastAndGreatestPriority() {
        check.part("greater priorities first, 0 to 7");
        TalkNet x = Check.withTalker(0, 5);
        int[] priorities = {3, 0, 7, 0, 7};
        for (int member = 1; member < 5; member++) {
            x.member(0, member, priorities[member]);
            x.press(0, member, false);
        }
        x.run(200);
        check.same("equal ones as they were heard", Check.waiting(x, 0), "2 4 1 3");
        TalkNet y = Check.withTalker(0, 3);
        y.member(0, 1, 7);
        y.member(0, 2, 0);
        y.press(0, 1, false);
        y.press(0, 2, true);
        y.run(200);
        check.same("an emergency of 0 before a 7", Check.waiting(y, 0), "2 1");
    }

    private static void oneAboveTheHolder() {
        check.part("above the holder: a greater priority");
        for (int holder = 0; holder <= 7; holder++) {
            for (int other = 0; other <= 7; other++) {
                TalkNet x = new TalkNet();
                x.rules(0, true, 50, 20, 5);
                x.member(0, 0, holder);
                x.member(0, 1, other);
                x.press(0, 0, false);
                x.run(200);
                x.press(0, 1, false);
                x.run(200);
                check.same(other + " above " + holder, x.server(0, 3), other > holder ? 1 : 0);
            }
        }
    }

    private static void requestNumbers() {
        check.part("REQUEST below, equal to and above the greatest one");
        TalkNet x = Check.withMembers(0, 1);
        for (int i = 0; i < 2; i++) {
            x.press(0, 0, false);
            x.release(0, 0);
        }
        x.press(0, 0, false);
        check.same("row", Check.row(x), "REQUEST 0/0 1 0 0; RELEASE 0/0 1 0 0; REQUEST 0/0 2 0 0; "
            + "RELEASE 0/0 2 0 0; REQUEST 0/0 3 0 0");
        x.twice(2);
        check.same("2 is granted", Check.server(x, 0) + ", " + x.messages(), "1 0 0 0 0 -1, 7");
        x.twice(0);
        check.same("1 is nothing", Check.server(x, 0) + ", " + x.messages(), "1 0 0 0 0 -1, 7");
        x.twice(2);
        check.same("2 is answered", Check.server(x, 0) + ", " + Check.row(x).endsWith("GRANTED 0/0 2 1 0"),
            "1 0 0 0 0 -1, true");
        x.twice(4);
        check.same("3 is granted anew", Check.server(x, 0) + ", " + Check.row(x).endsWith(
            "GATE 0/0 1 -1 0; GRANTED 0/0 3 2 0; GATE 0/0 2 0 0"), "2 0 0 0 0 -1, true");
        int before = x.messages();
        x.twice(2);
        check.same("now 2 is nothing", Check.server(x, 0) + ", " + (x.messages() - before), "2 0 0 0 0 -1, 0");
    }

    /** The holder is told apart from those that wait on both sides of its number. */
    private static void equalOfSmallerMember() {
        check.part("an equal REQUEST of members below and above the holder");
        TalkNet x = Check.withMembers(0, 3);
        for (int member : new int[] {1, 0, 2}) {
            x.press(0, member, false);
        }
        x.run(3);
        Check.dropAll(x);
        for (int member = 0; member < 3; member++) {
            x.again(0, member);
        }
        x.run(3);
        check.same("each has its own answer", Check.row(x), "QUEUED 0/0 1 0 0; GRANTED 0/1 1 1 0; QUEUED 0/2 1 1 0");
    }

    private static void releaseNumbers() {
        check.part("RELEASE below, equal to and above the greatest one");
        for (int number = 1; number <= 3; number++) {
            TalkNet x = Check.withMembers(0, 1);
            for (int i = 0; i < 3; i++) {
                x.press(0, 0, false);
                x.release(0, 0);
            }
            x.twice(2);
            check.same("2 holds", x.server(0, 1), 0);
            int before = x.messages();
            x.twice(2 * number - 1);
            check.same("holder after RELEASE " + number, x.server(0, 1), number == 1 ? 0 : -1);
            check.same("sent by RELEASE " + number, x.messages() - before, number == 1 ? 0 : 1);
            x.twice(4);
            check.same("REQUEST 3 after it: grants", x.server(0, 0), number == 3 ? 1 : 2);
        }
    }

    /** A RELEASE and a GATE both bear an a that may be greater than the gate's grant. */
    private static void releaseIsNoGate() {
        check.part("a RELEASE comes to the server alone");
        TalkNet x = Check.withMembers(0, 2);
        x.press(0, 1, false);
        x.release(0, 1);
        x.carry(1);
        check.same("relay", Check.relay(x, 0), "0 -1 0 0");
    }

    private static void gateNumbers() {
        check.part("GATE below, equal to and above its grant");
        TalkNet x = Check.withMembers(0, 3);
        for (int member = 0; member < 3; member++) {
            x.press(0, member, false);
            x.carry(x.messages() - 1);
            x.release(0, member);
            x.carry(x.messages() - 1);
            for (int k = x.messages() - 1; k >= 0; k--) {
                if (x.message(k, 0) != 10) {
                    x.drop(k);
                }
            }
        }
        check.same("row", Check.row(x), "GATE 0/0 1 0 0; GATE 0/0 1 -1 0; GATE 0/1 2 1 0; GATE 0/0 2 -1 0; "
            + "GATE 0/2 3 2 0; GATE 0/0 3 -1 0");
        x.twice(2);
        check.same("2 of 1", Check.relay(x, 0), "2 1 0 0");
        x.twice(0);
        check.same("below, somebody", Check.relay(x, 0), "2 1 0 0");
        x.twice(1);
        check.same("below, nobody", Check.relay(x, 0), "2 1 0 0");
        x.twice(2);
        check.same("equal, somebody", Check.relay(x, 0), "2 1 0 0");
        x.twice(3);
        check.same("equal, nobody", Check.relay(x, 0), "2 -1 0 0");
        x.twice(2);
        check.same("equal, somebody, when it is nobody", Check.relay(x, 0), "2 -1 0 0");
        x.twice(5);
        check.same("above, nobody", Check.relay(x, 0), "3 -1 0 0");
        x.twice(4);
        check.same("equal, somebody, behind that", Check.relay(x, 0), "3 -1 0 0");
    }

    private static void equalGateOfSomebody() {
        check.part("GATE of its grant and member once more");
        TalkNet x = Check.withMembers(0, 1);
        x.press(0, 0, false);
        x.carry(0);
        x.carry(0);
        x.twice(0);
        x.unit(0, 0, 7);
        x.twice(1);
        check.same("a unit is passed", Check.relay(x, 0), "1 0 1 0");
        x.twice(0);
        check.same("the gate stays", Check.relay(x, 0), "1 0 1 0");
        x.twice(1);
        check.same("and the unit was passed already", Check.relay(x, 0), "1 0 1 1");
    }

    private static void newerUnitOfTheSameMember() {
        check.part("UNIT of a grant below, equal to and above the gate's, all of one member");
        TalkNet x = withUnits(1, 1);
        x.release(0, 0);
        x.press(0, 0, false);
        x.carry(1);
        x.carry(1);
        check.same("row", Check.row(x), "UNIT 0/0 1 0 100; GATE 0/0 1 -1 0; GRANTED 0/0 2 2 0; GATE 0/0 2 0 0");
        x.carry(2);
        x.unit(0, 0, 200);
        x.twice(3);
        check.same("above", Check.relay(x, 0) + ", " + x.server(0, 5), "1 0 0 1, -1");
        x.twice(0);
        check.same("equal", Check.relay(x, 0) + ", " + x.server(0, 5), "1 0 1 1, -1");
        x.twice(2);
        x.twice(0);
        check.same("below", Check.relay(x, 0) + ", " + x.server(0, 5), "2 0 1 2, -1");
        x.twice(3);
        check.same("equal, of the holder's grant", Check.relay(x, 0) + ", " + x.server(0, 5), "2 0 2 2, 0");
    }

    private static void lastUnitNumber() {
        check.part("a unit's number is not above 63");
        TalkNet x = Check.withTalker(0, 2);
        for (int i = 0; i < 62; i++) {
            x.unit(0, 0, i);
            x.drop(0);
        }
        check.same("62", x.unit(0, 0, -62), 62);
        check.same("63", x.unit(0, 0, -63), 63);
        check.same("64 were sent", x.about(0, 0, 6), 64);
        check.fails(x, "no 64", UnsupportedOperationException.class, () -> x.unit(0, 0, -64));
        check.same("row", Check.row(x), "UNIT 0/0 1 62 -62; UNIT 0/0 1 63 -63");
        x.twice(0);
        x.twice(1);
        check.same("both pass", Check.relay(x, 0), "1 0 2 0");
        x.carry(0);
        x.carry(0);
        check.same("both once", Check.relay(x, 0), "1 0 2 2");
        x.run(200);
        Check.ticks(x, 4);
        check.same("played, then a gap for 64", Check.about(x, 0, 1, 9, 13), "1 65 2 1 0");
        Check.ticks(x, 3);
        check.same("over behind four gaps", Check.about(x, 0, 1, 9, 13), "0 68 2 4 0");
    }

    /** A holder since tick 3; the ticks that go by until it is freed, if units pass before each of these. */
    private static int ticksOfHolder(int longest, int idle, int... unitsAt) {
        TalkNet x = Check.withMembers(0, 1);
        x.rules(0, false, longest, idle, 0);
        Check.ticks(x, 3);
        x.press(0, 0, false);
        x.run(200);
        for (int ticks = 0; ticks <= 100; ticks++) {
            for (int at : unitsAt) {
                if (at == ticks) {
                    x.unit(0, 0, 1);
                    x.run(1);
                }
            }
            x.tick();
            if (x.server(0, 1) < 0) {
                return ticks + 1;
            }
        }
        return -1;
    }

    private static void longest() {
        check.part("LONGEST ticks ago or more");
        check.same("1", ticksOfHolder(1, 50), 1);
        check.same("2", ticksOfHolder(2, 50), 2);
        check.same("99, with units", ticksOfHolder(99, 50, 40, 80), 99);
        check.same("100, with units", ticksOfHolder(100, 50, 40, 80), 100);
        check.same("100, with one unit in time", ticksOfHolder(100, 50, 49, 98), 100);
        check.same("100, with a unit in the last tick", ticksOfHolder(100, 50, 49, 98, 99), 100);
    }

    private static void idle() {
        check.part("IDLE ticks went by");
        check.same("1", ticksOfHolder(100, 1), 1);
        check.same("2", ticksOfHolder(100, 2), 2);
        check.same("49", ticksOfHolder(100, 49), 49);
        check.same("50", ticksOfHolder(100, 50), 50);
        check.same("1 since a unit in the tick it began", ticksOfHolder(100, 1, 0), 1);
        check.same("2 since a unit one tick later", ticksOfHolder(100, 2, 1), 3);
        check.same("50 since a unit in the last tick", ticksOfHolder(100, 50, 49), 99);
        check.same("a unit in the same tick once more", ticksOfHolder(100, 7, 4, 4), 11);
    }

    /** Ticks from a revocation, in tick 4, to the next holder. */
    private static int ticksOfRevoked(int longest, int idle, int grace) {
        TalkNet x = Check.withMembers(0, 2);
        x.rules(0, true, longest, idle, grace);
        x.press(0, 0, false);
        x.run(200);
        Check.ticks(x, 4);
        x.press(0, 1, true);
        x.carry(0);
        check.same("revoked", x.server(0, 3) + " " + x.server(0, 1), "1 0");
        for (int ticks = 1; ticks <= 100; ticks++) {
            x.tick();
            if (x.server(0, 1) != 0) {
                check.same("the next is not revoked", x.server(0, 3), 0);
                return ticks;
            }
        }
        return -1;
    }

    private static void grace() {
        check.part("GRACE ticks ago or more");
        check.same("1", ticksOfRevoked(100, 50, 1), 1);
        check.same("2", ticksOfRevoked(100, 50, 2), 2);
        check.same("19", ticksOfRevoked(100, 50, 19), 19);
        check.same("20", ticksOfRevoked(100, 50, 20), 20);
    }

    private static void graceOfNone() {
        check.part("a GRACE of 0 ends with the next tick");
        check.same("0", ticksOfRevoked(100, 50, 0), 1);
    }

    private static void firstOfThreeEnds() {
        check.part("GRACE, LONGEST or IDLE, what is first");
        check.same("LONGEST before GRACE", ticksOfRevoked(8, 50, 5), 4);
        check.same("both in a tick", ticksOfRevoked(9, 50, 5), 5);
        check.same("GRACE before LONGEST", ticksOfRevoked(10, 50, 5), 5);
        check.same("IDLE before GRACE", ticksOfRevoked(100, 8, 5), 4);
        check.same("GRACE before IDLE", ticksOfRevoked(100, 10, 5), 5);
        check.same("LONGEST before IDLE", ticksOfHolder(6, 7), 6);
        check.same("IDLE before LONGEST", ticksOfHolder(7, 6), 6);
    }

    /** An ENDED has no b, which must not be taken for who talks. */
    private static void endedTellsNoTalker() {
        check.part("ENDED tells nothing of who talks");
        TalkNet x = Check.withTalker(0, 1);
        Check.ticks(x, 20);
        x.run(200);
        check.same("state, and who it sees talk", x.about(0, 0, 2) + " " + x.about(0, 0, 7), "0 -1");
    }

    private static void talkerNumbers() {
        check.part("TALKER below, equal to and above the one that it saw last");
        TalkNet x = Check.withMembers(0, 6);
        for (int member = 0; member < 4; member++) {
            x.press(0, member, false);
        }
        x.run(4);
        for (int member = 0; member < 3; member++) {
            x.leave(0, member);
        }
        check.same("grants", x.server(0, 0), 4);
        for (int k = x.messages() - 1; k >= 0; k--) {
            if (x.message(k, 0) != 8 || x.message(k, 2) != 5) {
                x.drop(k);
            }
        }
        check.same("row", Check.row(x), "TALKER 0/5 1 0 0; TALKER 0/5 2 1 0; TALKER 0/5 3 2 0; TALKER 0/5 4 3 0");
        int[][] due = {{2, 1}, {1, 1}, {2, 1}, {3, 2}, {2, 2}, {4, 3}, {3, 3}, {4, 3}};
        for (int[] d : due) {
            x.twice(d[0] - 1);
            check.same("behind TALKER " + d[0], x.about(0, 5, 7), d[1]);
        }
    }

    private static void everyFifthTick() {
        check.part("if time is a multiple of 5, and there is a holder");
        TalkNet x = Check.withTalker(0, 2);
        for (int time = 1; time <= 16; time++) {
            x.tick();
            check.same("at " + time, Check.row(x), time % 5 == 0 ? "TALKER 0/1 1 0 0" : "");
            Check.dropAll(x);
        }
        TalkNet none = Check.withMembers(0, 2);
        Check.ticks(none, 10);
        check.same("no holder", none.messages(), 0);
        none.press(0, 1, false);
        none.run(200);
        Check.ticks(none, 4);
        check.same("not 4 ticks later", none.messages(), 0);
        none.tick();
        check.same("at 15", Check.row(none), "TALKER 0/0 1 1 0");
    }

    private static String listener(TalkNet x) {
        return Check.about(x, 0, 1, 8, 13);
    }

    private static void sinceTwoTicks() {
        check.part("goes on since 2 ticks or more");
        for (int start : new int[] {0, 1, 2, 7}) {
            TalkNet x = Check.withTalker(0, 2);
            Check.ticks(x, start);
            x.run(200);
            x.unit(0, 0, 1);
            x.run(200);
            check.same("0 ticks", listener(x), "1 1 0 0 0 0");
            x.tick();
            check.same("1 tick", listener(x), "1 1 0 0 0 0");
            x.unit(0, 0, 1);
            x.run(200);
            x.tick();
            check.same("2 ticks, whatever came between", listener(x), "1 1 1 1 0 0");
            x.tick();
            check.same("3 ticks", listener(x), "1 1 2 2 0 0");
        }
    }

    private static void othersNotThere() {
        check.part("each member that is there plays, whoever else is not");
        TalkNet x = new TalkNet();
        x.member(1, 2, 0);
        x.member(1, 4, 0);
        x.press(1, 2, false);
        x.run(200);
        x.unit(1, 2, 8);
        x.run(200);
        Check.ticks(x, 2);
        check.same("4 plays", Check.about(x, 1, 4, 8, 14), "1 1 1 1 0 0 8");
    }

    /** Carries the last message of this kind with these a and b. */
    private static void bring(TalkNet x, int kind, int a, int b) {
        for (int k = x.messages() - 1; k >= 0; k--) {
            if (x.message(k, 0) == kind && x.message(k, 3) == a && x.message(k, 4) == b) {
                x.carry(k);
                return;
            }
        }
        check.same("a message " + kind + " " + a + " " + b, false, true);
    }

    /** The listener has unit b of grant a come to it; the relay has passed it before. */
    private static void hears(TalkNet x, int a, int b) {
        bring(x, 9, a, b);
    }

    /** Members 0, who talked three times, and 1; units 0 and 1 of each of the grants are passed and on their way. */
    private static TalkNet withThreeGrants() {
        TalkNet x = Check.withMembers(0, 2);
        for (int grant = 1; grant <= 3; grant++) {
            x.press(0, 0, false);
            bring(x, 1, grant, 0);
            bring(x, 3, grant, grant);
            bring(x, 10, grant, 0);
            for (int number = 0; number < 2; number++) {
                x.unit(0, 0, 10 * grant + number);
                bring(x, 11, grant, number);
            }
            x.release(0, 0);
            bring(x, 2, grant, 0);
        }
        return x;
    }

    private static void spurtNumbers() {
        check.part("PASSED below, equal to and above its grant");
        TalkNet x = withThreeGrants();
        hears(x, 2, 0);
        check.same("the first", listener(x), "2 1 0 0 0 0");
        hears(x, 1, 0);
        check.same("below", listener(x), "2 1 0 0 0 1");
        hears(x, 2, 1);
        check.same("equal, and goes on", listener(x), "2 1 0 0 0 1");
        hears(x, 3, 1);
        check.same("above", listener(x), "3 1 1 0 0 1");
        hears(x, 3, 0);
        check.same("equal, below what is next", listener(x), "3 1 1 0 0 2");
        Check.ticks(x, 6);
        check.same("over", listener(x), "3 0 6 1 4 2");
        hears(x, 1, 1);
        check.same("below, when it is over", listener(x), "3 0 6 1 4 3");

        TalkNet y = withThreeGrants();
        hears(y, 1, 0);
        Check.ticks(y, 6);
        check.same("over", listener(y), "1 0 5 1 4 0");
        hears(y, 1, 1);
        check.same("equal, when it is over", listener(y), "1 0 5 1 4 1");
        hears(y, 2, 0);
        check.same("above, when it is over", listener(y), "2 1 0 1 4 1");
        Check.ticks(y, 2);
        check.same("which begins in its own tick", listener(y), "2 1 1 2 4 1");
    }

    /** A listener with this number next, and all later numbers passed and on their way. */
    private static TalkNet nextIs(int next) {
        TalkNet x = Check.withTalker(0, 2);
        for (int i = 0; i < next; i++) {
            x.unit(0, 0, i);
            x.drop(0);
        }
        for (int i = next; i < 64 && i < next + 20; i++) {
            x.unit(0, 0, i);
            bring(x, 11, 1, i);
        }
        hears(x, 1, next);
        check.same("next", listener(x), "1 1 " + next + " 0 0 0");
        return x;
    }

    private static void sixteenAbove() {
        check.part("16 or more above what is next");
        for (int next : new int[] {0, 1, 15, 16, 17, 30}) {
            for (int above = 1; above < 20; above++) {
                TalkNet x = nextIs(next);
                hears(x, 1, next + above);
                check.same(above + " above " + next + ": late", x.about(0, 1, 13), above < 16 ? 0 : 1);
            }
        }
        TalkNet x = nextIs(0);
        hears(x, 1, 16);
        check.same("16 above is late", listener(x), "1 1 0 0 0 1");
        Check.ticks(x, 2);
        check.same("and is not played for 0", x.about(0, 1, 14), 0);
        hears(x, 1, 17);
        check.same("16 above the next, too", listener(x), "1 1 1 1 0 2");
        hears(x, 1, 1);
        Check.ticks(x, 1);
        check.same("1 is played", listener(x), "1 1 2 2 0 2");
        hears(x, 1, 15);
        hears(x, 1, 18);
        check.same("13 and 16 above", listener(x), "1 1 2 2 0 3");
    }

    private static void sixteenAboveAtTheEnd() {
        check.part("16 or more above, with the last number");
        int[][] due = {{46, 1}, {47, 1}, {48, 0}, {49, 0}, {62, 0}};
        for (int[] d : due) {
            TalkNet x = nextIs(d[0]);
            hears(x, 1, 63);
            check.same("63, when " + d[0] + " is next: late", x.about(0, 1, 13), d[1]);
        }
        TalkNet x = nextIs(63);
        Check.ticks(x, 2);
        check.same("what is next grows above 63", listener(x), "1 1 64 1 0 0");
    }

    private static void fourGaps() {
        check.part("four gaps one behind the other");
        TalkNet x = nextIs(0);
        hears(x, 1, 4);
        hears(x, 1, 9);
        Check.ticks(x, 1 + 4);
        check.same("three gaps", listener(x), "1 1 4 1 3 0");
        x.tick();
        check.same("a unit behind them", listener(x), "1 1 5 2 3 0");
        Check.ticks(x, 3);
        check.same("three more", listener(x), "1 1 8 2 6 0");
        x.tick();
        check.same("the fourth, though 9 is kept", listener(x), "1 0 9 2 7 0");
        Check.ticks(x, 3);
        check.same("nothing more is played", listener(x), "1 0 9 2 7 0");
    }

    private static void minusOneIsNoGap() {
        check.part("a gap counts as -1, but -1 is no gap");
        TalkNet x = Check.withTalker(0, 2);
        for (int i = 0; i < 5; i++) {
            x.unit(0, 0, -1);
        }
        x.run(200);
        Check.ticks(x, 6);
        check.same("five are played", listener(x), "1 1 5 5 0 0");
        int played = x.about(0, 1, 14);
        TalkNet y = nextIs(0);
        hears(y, 1, 2);
        Check.ticks(y, 4);
        check.same("0, a gap, 2", y.about(0, 1, 12) + " " + y.about(0, 1, 14), "1 " + ((0 * 31 - 1) * 31 + 2));
        check.same("-1 five times", played, -1 - 31 - 961 - 29791 - 923521);
    }

    /** The sum after these values were played. */
    private static int sumOf(int... values) {
        TalkNet x = Check.withTalker(0, 2);
        for (int value : values) {
            x.unit(0, 0, value);
        }
        x.run(200);
        Check.ticks(x, 1 + values.length);
        return x.about(0, 1, 14);
    }

    private static void sumWrapsAround() {
        check.part("a sum, as an int that wraps around");
        check.same("69273666 * 31 + 1 is the greatest", sumOf(69273666, 1), 2147483647);
        check.same("one more", sumOf(69273666, 2), -2147483648);
        check.same("and one more", sumOf(69273666, 3), -2147483647);
        check.same("-69273666 * 31 - 2 is the least", sumOf(-69273666, -2), -2147483648);
        check.same("one less", sumOf(-69273666, -3), 2147483647);
        check.same("the greatest * 31", sumOf(Integer.MAX_VALUE, 0), 2147483617);
        check.same("the least * 31", sumOf(Integer.MIN_VALUE, 0), -2147483648);
        check.same("the least alone", sumOf(Integer.MIN_VALUE), -2147483648);
    }

    private static void leaveEndsTheSpurt() {
        check.part("when it leaves, its spurt is over");
        TalkNet x = withThreeGrants();
        hears(x, 2, 0);
        x.leave(0, 1);
        check.same("over", listener(x), "2 0 0 0 0 0");
        hears(x, 1, 0);
        check.same("late ones are not heard", listener(x), "2 0 0 0 0 0");
        x.member(0, 1, 3);
        hears(x, 2, 1);
        check.same("back: of the same grant is late", listener(x), "2 0 0 0 0 1");
        Check.ticks(x, 3);
        check.same("and nothing is played", listener(x), "2 0 0 0 0 1");
        hears(x, 3, 0);
        check.same("of a greater one is not", listener(x), "3 1 0 0 0 1");
    }

    private static void leaveOfARevokedHolder() {
        check.part("a revoked holder leaves");
        TalkNet x = Check.withMembers(0, 3);
        x.rules(0, true, 50, 20, 5);
        x.press(0, 0, false);
        x.run(200);
        x.press(0, 1, true);
        x.run(200);
        check.same("the next is granted, without ENDED", Check.sentBy(x, () -> x.leave(0, 0)),
            "GRANTED 0/1 1 2 0; GATE 0/1 2 1 0; TALKER 0/2 2 1 0");
        check.same("and is not revoked", Check.server(x, 0), "2 1 0 0 0 -1");
        check.same("state of the one that left", x.about(0, 0, 2), 0);
    }

    private static void allLeave() {
        check.part("all leave, one after the other");
        TalkNet x = withWaiting(4);
        for (int member = 0; member < 6; member++) {
            check.same("was there", x.leave(0, member), true);
        }
        check.same("five grants, no holder", Check.server(x, 0), "5 -1 0 0 -1 -1");
        x.run(200);
        check.same("the gate is of nobody", Check.relay(x, 0), "5 -1 0 0");
        Check.ticks(x, 5);
        check.same("nothing is sent", x.messages(), 0);
    }

    private static void aloneInAGroup() {
        check.part("to all others that are there: none, one, five");
        for (int n : new int[] {1, 2, 6}) {
            TalkNet x = Check.withMembers(0, n);
            x.press(0, n - 1, false);
            x.carry(0);
            check.same("TALKERs of " + n, x.messages(), 2 + n - 1);
            x.run(200);
            x.unit(0, n - 1, 5);
            x.carry(0);
            check.same("PASSED of " + n, x.messages(), n - 1);
            for (int k = 0; k < n - 1; k++) {
                check.same("by number", x.message(k, 2), k);
            }
        }
    }

    private static void objectsShareNothing() {
        check.part("a new object beside one that was used");
        TalkNet used = withUnits(2, 61);
        used.rules(0, true, 1, 1, 0);
        used.tick();
        String before = Check.all(used);
        TalkNet x = new TalkNet();
        check.same("messages and lost", counts(x), "0 0");
        check.same("server", Check.server(x, 0), "0 -1 0 0 -1 -1");
        check.same("time", x.tick(), 1);
        x.member(0, 0, 7);
        x.press(0, 0, true);
        x.run(200);
        Check.ticks(x, 19);
        check.same("rules at first", x.server(0, 1), 0);
        check.same("the used one is as it was", Check.all(used), before);
    }
}
