import java.util.NoSuchElementException;

/** Promises 16 and 17, and what comes to the server: requests, releases, the row that waits. */
public final class ServerTest {
    private static final Check check = new Check();

    public static void main(String[] args) {
        server();
        waiting();
        granted();
        older();
        equal();
        equalAfterDenial();
        denialOfTheGreatest();
        greaterOfHolder();
        greaterOfWaiting();
        fullRow();
        order();
        priorityWhenHeard();
        preempting();
        notPreempting();
        release();
        releaseOfOthers();
        check.end();
    }

    private static void server() {
        check.part("promise 16");
        TalkNet x = Check.withMembers(1, 3);
        x.rules(1, true, 50, 20, 5);
        Check.ticks(x, 3);
        x.press(1, 2, false);
        x.run(200);
        check.same("holds", Check.server(x, 1), "1 2 0 0 3 -1");
        x.tick();
        x.unit(1, 2, 0);
        x.run(200);
        check.same("a unit passed", Check.server(x, 1), "1 2 0 0 3 4");
        x.press(1, 0, true);
        x.run(200);
        check.same("revoked", Check.server(x, 1), "1 2 1 1 3 4");
        x.release(1, 2);
        x.run(200);
        check.same("next one", Check.server(x, 1), "2 0 0 0 4 -1");
        x.release(1, 0);
        x.run(200);
        check.same("nobody", Check.server(x, 1), "2 -1 0 0 -1 -1");
        check.same("another group", Check.server(x, 0), "0 -1 0 0 -1 -1");
        check.fails(x, "group 3", NoSuchElementException.class, () -> x.server(3, 0));
        check.fails(x, "group -1", NoSuchElementException.class, () -> x.server(-1, 6));
        check.fails(x, "what 6", IndexOutOfBoundsException.class, () -> x.server(0, 6));
        check.fails(x, "what -1", IndexOutOfBoundsException.class, () -> x.server(0, -1));
    }

    private static void waiting() {
        check.part("promise 17");
        TalkNet x = Check.withTalker(0, 3);
        x.press(0, 2, false);
        x.press(0, 1, false);
        x.run(200);
        check.same("first", x.waiting(0, 0), 2);
        check.same("second", x.waiting(0, 1), 1);
        check.fails(x, "third", IndexOutOfBoundsException.class, () -> x.waiting(0, 2));
        check.fails(x, "place 4", IndexOutOfBoundsException.class, () -> x.waiting(0, 4));
        check.fails(x, "place -1", IndexOutOfBoundsException.class, () -> x.waiting(0, -1));
        check.fails(x, "group 1", IndexOutOfBoundsException.class, () -> x.waiting(1, 0));
        check.fails(x, "group 3", NoSuchElementException.class, () -> x.waiting(3, 0));
        check.fails(x, "group -1", NoSuchElementException.class, () -> x.waiting(-1, -1));
    }

    private static void granted() {
        check.part("granted the floor");
        TalkNet x = Check.withMembers(2, 5);
        x.leave(2, 1);
        x.press(2, 3, false);
        x.carry(0);
        check.same("row", Check.row(x), "GRANTED 2/3 1 1 0; GATE 2/3 1 3 0; "
            + "TALKER 2/0 1 3 0; TALKER 2/2 1 3 0; TALKER 2/4 1 3 0");
    }

    private static void older() {
        check.part("an older REQUEST");
        TalkNet x = Check.withMembers(0, 1);
        x.press(0, 0, false);
        x.release(0, 0);
        x.press(0, 0, false);
        x.carry(2);
        Check.ticks(x, 1);
        check.same("request 2 holds", x.server(0, 0) + " " + x.server(0, 1), "1 0");
        x.carry(0);
        x.carry(0);
        check.same("nothing", Check.server(x, 0) + " " + x.messages(), "1 0 0 0 0 -1 2");
    }

    private static void equal() {
        check.part("an equal REQUEST");
        TalkNet x = Check.withMembers(0, 4);
        x.press(0, 0, false);
        x.twice(0);
        Check.ticks(x, 1);
        x.twice(0);
        check.same("of the holder", Check.row(x), "REQUEST 0/0 1 0 0; GRANTED 0/0 1 1 0; GATE 0/0 1 0 0; "
            + "TALKER 0/1 1 0 0; TALKER 0/2 1 0 0; TALKER 0/3 1 0 0; GRANTED 0/0 1 1 0");
        check.same("it holds since then", Check.server(x, 0), "1 0 0 0 0 -1");
        x.run(200);
        x.press(0, 1, false);
        x.press(0, 2, false);
        x.run(200);
        x.again(0, 2);
        check.same("of one that waits", Check.sentBy(x, () -> {
            x.again(0, 2);
            x.carry(0);
        }), "QUEUED 0/2 1 1 0");
        x.release(0, 2);
        x.run(200);
        check.same("of one that released", x.server(0, 2), 1);
        TalkNet y = Check.withMembers(0, 1);
        y.press(0, 0, false);
        y.again(0, 0);
        y.carry(0);
        y.release(0, 0);
        y.carry(3);
        check.same("holder is none", y.server(0, 1), -1);
        y.carry(0);
        check.same("nothing", y.server(0, 0) + " " + Check.row(y),
            "1 GRANTED 0/0 1 1 0; GATE 0/0 1 0 0; GATE 0/0 1 -1 0");
    }

    private static void equalAfterDenial() {
        check.part("an equal REQUEST that was denied");
        TalkNet x = Check.withTalker(0, 6);
        for (int member = 1; member < 6; member++) {
            x.press(0, member, false);
        }
        x.again(0, 5);
        x.again(0, 5);
        x.run(5);
        x.leave(0, 1);
        x.carry(0);
        check.same("denied again, though there is place now", Check.row(x).endsWith("DENIED 0/5 1 0 0; DENIED 0/5 1 0 0"),
            true);
        x.release(0, 5);
        x.carry(x.messages() - 1);
        x.carry(0);
        check.same("and after its RELEASE", Check.row(x).endsWith("DENIED 0/5 1 0 0; DENIED 0/5 1 0 0; DENIED 0/5 1 0 0"),
            true);
        check.same("waiting", Check.waiting(x, 0), "2 3 4");
        x.press(0, 5, false);
        x.twice(x.messages() - 1);
        check.same("a new one waits", Check.waiting(x, 0), "2 3 4 5");
    }

    /** A talker, four that wait, and member 5, whose request 1 was denied; nothing is on its way. */
    private static TalkNet withDenied() {
        TalkNet x = Check.withTalker(0, 6);
        for (int member = 1; member < 6; member++) {
            x.press(0, member, false);
        }
        x.run(200);
        return x;
    }

    private static void denialOfTheGreatest() {
        check.part("whether the greatest number was denied");
        TalkNet x = withDenied();
        x.press(0, 5, false);
        x.release(0, 5);
        x.carry(1);
        x.carry(0);
        check.same("a greater RELEASE's number was not", x.messages(), 0);

        TalkNet y = withDenied();
        y.press(0, 5, false);
        y.twice(0);
        y.leave(0, 5);
        y.member(0, 5, 3);
        y.leave(0, 1);
        y.carry(0);
        check.same("it still was when its member left and came back", Check.row(y),
            "DENIED 0/5 2 0 0; DENIED 0/5 2 0 0");
        check.same("waiting", Check.waiting(y, 0), "2 3 4");

        TalkNet z = withDenied();
        z.press(0, 5, false);
        z.leave(0, 1);
        z.twice(0);
        z.carry(0);
        check.same("a greater REQUEST's was not, when it waits", Check.row(z), "QUEUED 0/5 2 3 0; QUEUED 0/5 2 3 0");
        Check.dropAll(z);
        z.again(0, 5);
        z.release(0, 5);
        z.carry(1);
        z.carry(0);
        check.same("nor when it was released", z.messages(), 0);
    }

    private static void greaterOfHolder() {
        check.part("a greater REQUEST of the holder");
        TalkNet x = Check.withTalker(0, 3);
        x.release(0, 0);
        x.drop(0);
        x.press(0, 0, false);
        x.tick();
        x.carry(0);
        check.same("freed and granted anew", Check.row(x), "GATE 0/0 1 -1 0; "
            + "GRANTED 0/0 2 2 0; GATE 0/0 2 0 0; TALKER 0/1 2 0 0; TALKER 0/2 2 0 0");
        check.same("server", Check.server(x, 0), "2 0 0 0 1 -1");
        x.run(200);
        x.press(0, 2, false);
        x.run(200);
        x.release(0, 0);
        x.drop(0);
        x.press(0, 0, false);
        x.carry(0);
        check.same("freed for the one that waits", Check.row(x), "GRANTED 0/2 1 3 0; GATE 0/2 3 2 0; "
            + "TALKER 0/0 3 2 0; TALKER 0/1 3 2 0; QUEUED 0/0 3 0 0");
        check.same("server", Check.server(x, 0) + " " + Check.waiting(x, 0), "3 2 1 0 1 -1 0");

        TalkNet y = Check.withTalker(0, 2);
        y.rules(0, true, 50, 20, 5);
        y.press(0, 1, false);
        y.run(200);
        y.release(0, 0);
        y.drop(0);
        y.press(0, 0, true);
        y.carry(0);
        check.same("it may revoke the one it freed the floor for", Check.row(y), "GRANTED 0/1 1 2 0; GATE 0/1 2 1 0; "
            + "TALKER 0/0 2 1 0; QUEUED 0/0 2 0 0; REVOKED 0/1 2 0 0");
    }

    private static void greaterOfWaiting() {
        check.part("a greater REQUEST of one that waits");
        TalkNet x = Check.withTalker(0, 4);
        for (int member = 1; member < 4; member++) {
            x.press(0, member, false);
        }
        x.run(200);
        x.release(0, 1);
        x.drop(0);
        x.press(0, 1, false);
        x.carry(0);
        check.same("it waits behind", Check.waiting(x, 0), "2 3 1");
        check.same("row", Check.row(x), "QUEUED 0/1 2 2 0");
        x.run(200);
        x.release(0, 3);
        x.drop(0);
        x.press(0, 3, true);
        x.carry(0);
        check.same("an emergency waits before", Check.waiting(x, 0), "3 2 1");
    }

    private static void fullRow() {
        check.part("4 wait");
        TalkNet x = Check.withTalker(0, 6);
        x.rules(0, true, 50, 20, 5);
        for (int member = 1; member < 5; member++) {
            x.press(0, member, false);
        }
        x.run(200);
        check.same("4 wait", Check.waiting(x, 0), "1 2 3 4");
        x.press(0, 5, true);
        x.carry(0);
        check.same("even an emergency is denied", Check.row(x), "DENIED 0/5 1 0 0");
        check.same("and revokes nobody", Check.server(x, 0), "1 0 4 0 0 -1");
        Check.dropAll(x);
        x.release(0, 4);
        x.drop(0);
        x.press(0, 4, false);
        x.carry(0);
        check.same("one of the four may ask anew", Check.row(x), "QUEUED 0/4 2 3 0");
        Check.dropAll(x);
        x.release(0, 0);
        x.drop(0);
        x.press(0, 0, false);
        x.carry(0);
        check.same("and so may the holder", Check.waiting(x, 0), "2 3 4 0");
    }

    private static void order() {
        check.part("the row's order");
        TalkNet x = Check.withMembers(0, 6);
        int[] priorities = {0, 2, 5, 2, 7, 1};
        for (int member = 0; member < 6; member++) {
            x.member(0, member, priorities[member]);
        }
        x.press(0, 0, false);
        x.run(200);
        x.press(0, 3, false);
        x.press(0, 4, false);
        x.press(0, 1, false);
        x.press(0, 5, true);
        x.run(3);
        check.same("greater priorities first, then earlier ones", Check.waiting(x, 0), "4 3 1");
        check.same("places when they were heard", Check.row(x),
            "REQUEST 0/5 1 1 0; QUEUED 0/3 1 0 0; QUEUED 0/4 1 0 0; QUEUED 0/1 1 2 0");
        x.run(200);
        check.same("an emergency before all", Check.waiting(x, 0), "5 4 3 1");
        x.leave(0, 3);
        x.press(0, 2, true);
        x.run(200);
        check.same("emergencies by priority", Check.waiting(x, 0), "2 5 4 1");
        x.release(0, 0);
        x.run(200);
        check.same("the first is granted", x.server(0, 1) + " " + Check.waiting(x, 0), "2 5 4 1");
    }

    private static void priorityWhenHeard() {
        check.part("priorities as they were when heard");
        TalkNet x = Check.withTalker(0, 5);
        x.press(0, 1, false);
        x.press(0, 2, false);
        x.member(0, 2, 5);
        x.run(200);
        check.same("as it was when it came, not when it was sent", Check.waiting(x, 0), "2 1");
        x.member(0, 1, 7);
        x.member(0, 2, 0);
        check.same("no new order", Check.waiting(x, 0), "2 1");
        x.member(0, 3, 4);
        x.press(0, 3, false);
        x.run(200);
        check.same("between the priorities that were heard", Check.waiting(x, 0), "2 3 1");
        x.again(0, 1);
        x.run(200);
        x.member(0, 4, 4);
        x.press(0, 4, false);
        x.run(200);
        check.same("first heard, not heard again", Check.waiting(x, 0), "2 3 4 1");

        TalkNet y = Check.withMembers(0, 2);
        y.rules(0, true, 50, 20, 5);
        y.press(0, 0, false);
        y.run(200);
        y.member(0, 0, 0);
        y.press(0, 1, false);
        y.run(200);
        check.same("the holder's as it was when heard", y.server(0, 3), 0);
        y.release(0, 1);
        y.run(200);
        y.member(0, 0, 7);
        y.member(0, 1, 4);
        y.press(0, 1, false);
        y.run(200);
        check.same("and though it is greater now", y.server(0, 3), 1);

        TalkNet z = Check.withMembers(0, 3);
        z.rules(0, true, 50, 20, 5);
        z.press(0, 0, false);
        z.press(0, 1, false);
        z.run(200);
        z.member(0, 1, 0);
        z.release(0, 0);
        z.run(200);
        z.press(0, 2, false);
        z.run(200);
        check.same("heard, not granted: a holder that waited", z.server(0, 1) + " " + z.server(0, 3), "1 0");
    }

    /** What a second member's REQUEST sends, and whether the holder is revoked by it. */
    private static String preempt(boolean rule, boolean first, int priority, boolean second, int greater) {
        TalkNet x = Check.withMembers(0, 3);
        x.rules(0, rule, 50, 20, 5);
        x.member(0, 0, priority);
        x.member(0, 1, greater);
        x.press(0, 0, first);
        x.run(200);
        x.press(0, 1, second);
        x.carry(0);
        return x.server(0, 3) + " " + Check.row(x);
    }

    private static void preempting() {
        check.part("preempting");
        String revoked = "1 QUEUED 0/1 1 0 0; REVOKED 0/0 1 0 0";
        String not = "0 QUEUED 0/1 1 0 0";
        check.same("an emergency", preempt(true, false, 7, true, 0), revoked);
        check.same("a greater priority", preempt(true, false, 3, false, 4), revoked);
        check.same("both emergencies, greater priority", preempt(true, true, 3, true, 4), revoked);
        check.same("an equal priority", preempt(true, false, 3, false, 3), not);
        check.same("a smaller priority", preempt(true, false, 3, false, 2), not);
        check.same("both emergencies, equal", preempt(true, true, 3, true, 3), not);
        check.same("no emergency over one", preempt(true, true, 0, false, 7), not);
        check.same("no preempting group", preempt(false, false, 0, true, 7), not);
    }

    private static void notPreempting() {
        check.part("a revoked holder");
        TalkNet x = Check.withMembers(0, 3);
        x.rules(0, true, 50, 20, 3);
        x.press(0, 0, false);
        x.run(200);
        x.press(0, 1, true);
        x.run(200);
        x.tick();
        x.member(0, 2, 7);
        x.press(0, 2, true);
        x.carry(0);
        check.same("is not revoked again", Check.row(x), "QUEUED 0/2 1 0 0");
        Check.ticks(x, 1);
        check.same("still holds", x.server(0, 1), 0);
        x.tick();
        check.same("freed 3 ticks after the first", x.server(0, 1) + " " + x.server(0, 3), "2 0");
    }

    private static void release() {
        check.part("RELEASE");
        TalkNet x = Check.withTalker(0, 3);
        x.release(0, 0);
        x.twice(0);
        check.same("of the holder", Check.row(x), "RELEASE 0/0 1 0 0; GATE 0/0 1 -1 0");
        check.same("server", Check.server(x, 0), "1 -1 0 0 -1 -1");
        x.twice(0);
        check.same("again: nothing", x.messages(), 2);
        x.press(0, 0, false);
        x.carry(2);
        x.carry(0);
        check.same("an older one: nothing", Check.server(x, 0), "2 0 0 0 0 -1");
        x.run(200);
        x.press(0, 2, false);
        x.run(200);
        x.tick();
        x.release(0, 0);
        x.carry(0);
        check.same("of the holder, when one waits", Check.row(x),
            "GRANTED 0/2 1 3 0; GATE 0/2 3 2 0; TALKER 0/0 3 2 0; TALKER 0/1 3 2 0");
        check.same("server", Check.server(x, 0), "3 2 0 0 1 -1");
    }

    private static void releaseOfOthers() {
        check.part("RELEASE of one that waits, and greater ones");
        TalkNet x = Check.withTalker(0, 4);
        for (int member = 1; member < 4; member++) {
            x.press(0, member, false);
        }
        x.run(200);
        x.release(0, 2);
        x.carry(0);
        check.same("goes from the row", Check.waiting(x, 0) + ", " + x.messages(), "1 3, 0");
        x.release(0, 3);
        x.drop(0);
        x.press(0, 3, false);
        x.release(0, 3);
        x.carry(1);
        check.same("a greater one, of one that waits", Check.waiting(x, 0), "1");
        x.carry(0);
        check.same("its REQUEST comes after: nothing", Check.waiting(x, 0) + ", " + x.messages(), "1, 0");
        x.release(0, 0);
        x.drop(0);
        x.press(0, 0, false);
        x.release(0, 0);
        x.carry(1);
        check.same("a greater one, of the holder", x.server(0, 0) + " " + x.server(0, 1), "2 1");
        x.carry(0);
        check.same("its REQUEST comes after: nothing", x.server(0, 2), 0);
    }
}
