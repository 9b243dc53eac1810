import java.util.NoSuchElementException;

/** Promises 1 to 4: a new object, rules, member, leave. */
public final class MembersTest {
    private static final Check check = new Check();

    public static void main(String[] args) {
        newObject();
        rulesBounds();
        rulesAtFirst();
        rulesOfAGrantStay();
        member();
        leave();
        leaveOfHolder();
        leaveOfWaiting();
        absentHearsNothing();
        absentsMessagesStay();
        check.end();
    }

    private static void newObject() {
        check.part("promise 1");
        TalkNet x = new TalkNet();
        check.same("messages", x.messages(), 0);
        check.same("lost", x.lost(), 0);
        for (int group = 0; group < 3; group++) {
            check.same("server", Check.server(x, group), "0 -1 0 0 -1 -1");
            check.same("relay", Check.relay(x, group), "0 -1 0 0");
            for (int member = 0; member < 6; member++) {
                check.same("about", Check.about(x, group, member, 0, 14), "0 0 0 0 0 0 0 -1 0 0 0 0 0 0 0");
            }
        }
        check.same("first tick", x.tick(), 1);
    }

    private static void rulesBounds() {
        check.part("promise 2, bounds");
        TalkNet x = new TalkNet();
        int[][] bad = {{0, 1, 0}, {101, 1, 0}, {1, 0, 0}, {1, 51, 0}, {1, 1, -1}, {1, 1, 21},
            {Integer.MIN_VALUE, 1, 0}, {1, Integer.MAX_VALUE, 0}};
        for (int[] b : bad) {
            check.fails(x, "rules with " + b[0] + " " + b[1] + " " + b[2], IllegalArgumentException.class,
                () -> x.rules(0, true, b[0], b[1], b[2]));
        }
        check.fails(x, "rules(-1)", NoSuchElementException.class, () -> x.rules(-1, true, 1, 1, 0));
        check.fails(x, "rules(3)", NoSuchElementException.class, () -> x.rules(3, true, 1, 1, 0));
        check.fails(x, "rules, all wrong", NoSuchElementException.class, () -> x.rules(3, true, 0, 0, -1));
        x.rules(0, true, 1, 1, 0);
        x.rules(2, true, 100, 50, 20);
    }

    private static void rulesAtFirst() {
        check.part("promise 2, rules at first");
        TalkNet idle = Check.withTalker(0, 2);
        Check.ticks(idle, 19);
        check.same("holder after 19 idle ticks", idle.server(0, 1), 0);
        idle.tick();
        check.same("holder after 20 idle ticks", idle.server(0, 1), -1);

        TalkNet longest = Check.withTalker(0, 1);
        for (int i = 0; i < 49; i++) {
            longest.unit(0, 0, i);
            longest.run(1);
            longest.tick();
        }
        check.same("holder after 49 ticks with units", longest.server(0, 1), 0);
        longest.tick();
        check.same("holder after 50 ticks", longest.server(0, 1), -1);

        TalkNet meek = Check.withTalker(0, 2);
        meek.press(0, 1, true);
        meek.run(200);
        check.same("no preempting at first", meek.server(0, 3), 0);

        TalkNet refused = Check.withMembers(0, 1);
        check.fails(refused, "rules", IllegalArgumentException.class, () -> refused.rules(0, true, 1, 1, 21));
        refused.press(0, 0, false);
        refused.run(200);
        Check.ticks(refused, 19);
        check.same("refused rules do not hold", refused.server(0, 1), 0);
    }

    private static void rulesOfAGrantStay() {
        check.part("promise 2, rules of a grant stay");
        TalkNet x = Check.withMembers(1, 3);
        x.rules(1, true, 50, 9, 4);
        x.press(1, 0, false);
        x.run(200);
        x.rules(1, false, 1, 1, 0);
        x.press(1, 1, true);
        x.run(200);
        check.same("preempts by the holder's rules", Check.server(x, 1), "1 0 1 1 0 -1");
        Check.ticks(x, 3);
        check.same("grace of the grant", x.server(1, 1), 0);
        x.tick();
        check.same("after the grace", x.server(1, 1), 1);
        check.same("other groups have their own rules", x.server(0, 1), -1);
        x.tick();
        check.same("the next grant has the new rules", x.server(1, 1), -1);
    }

    private static void member() {
        check.part("promise 3");
        TalkNet x = new TalkNet();
        x.member(2, 5, 7);
        check.same("there, with priority", Check.about(x, 2, 5, 0, 1), "1 7");
        check.same("not in another group", Check.about(x, 1, 5, 0, 1), "0 0");
        x.press(2, 5, false);
        x.member(2, 5, 0);
        check.same("a new priority, all else as it was", Check.about(x, 2, 5, 0, 3), "1 0 1 1");
        int[][] none = {{-1, 0}, {3, 0}, {0, -1}, {0, 6}};
        for (int[] n : none) {
            check.fails(x, "member " + n[0] + " " + n[1], NoSuchElementException.class, () -> x.member(n[0], n[1], 1));
            check.fails(x, "member, all wrong", NoSuchElementException.class, () -> x.member(n[0], n[1], 8));
        }
        check.fails(x, "priority 8", IllegalArgumentException.class, () -> x.member(0, 0, 8));
        check.fails(x, "priority -1", IllegalArgumentException.class, () -> x.member(0, 0, -1));
    }

    private static void leave() {
        check.part("promise 4");
        TalkNet x = Check.withTalker(0, 3);
        x.unit(0, 0, 9);
        x.run(200);
        x.press(0, 1, false);
        x.run(200);
        check.same("before", Check.about(x, 0, 1, 0, 10), "1 3 2 1 0 0 0 0 1 1 0");
        check.same("was there", x.leave(0, 1), true);
        check.same("state none, spurt over, all else as it was", Check.about(x, 0, 1, 0, 10), "0 3 0 1 0 0 0 0 1 0 0");
        check.same("was not there", x.leave(0, 1), false);
        check.same("never was there", x.leave(1, 1), false);
        Check.ticks(x, 4);
        check.same("an absent one plays nothing", Check.about(x, 0, 1, 10, 12), "0 0 0");
        check.same("another one plays", Check.about(x, 0, 2, 10, 12), "3 1 2");
        x.member(0, 1, 5);
        check.same("back again", Check.about(x, 0, 1, 0, 10), "1 5 0 1 0 0 0 0 1 0 0");
        check.same("its numbers go on", x.press(0, 1, false), 2);
        int[][] none = {{-1, 0}, {3, 0}, {0, -1}, {0, 6}};
        for (int[] n : none) {
            check.fails(x, "leave " + n[0] + " " + n[1], NoSuchElementException.class, () -> x.leave(n[0], n[1]));
        }
    }

    private static void leaveOfHolder() {
        check.part("promise 4, the holder");
        TalkNet x = Check.withTalker(0, 3);
        check.same("nobody waits", Check.sentBy(x, () -> x.leave(0, 0)), "GATE 0/0 1 -1 0");
        check.same("no holder", Check.server(x, 0), "1 -1 0 0 -1 -1");

        TalkNet y = Check.withTalker(0, 3);
        y.press(0, 2, false);
        y.run(200);
        check.same("somebody waits", Check.sentBy(y, () -> y.leave(0, 0)),
            "GRANTED 0/2 1 2 0; GATE 0/2 2 2 0; TALKER 0/1 2 2 0");
        check.same("the next holder", Check.server(y, 0), "2 2 0 0 0 -1");
    }

    private static void leaveOfWaiting() {
        check.part("promise 4, who waits");
        TalkNet x = Check.withTalker(0, 4);
        for (int member = 1; member < 4; member++) {
            x.press(0, member, false);
        }
        x.run(200);
        check.same("nothing is sent", Check.sentBy(x, () -> x.leave(0, 2)), "");
        check.same("the others wait", Check.waiting(x, 0), "1 3");
        check.same("the holder stays", x.server(0, 1), 0);
    }

    private static void absentHearsNothing() {
        check.part("absent members hear nothing");
        TalkNet x = Check.withMembers(0, 2);
        x.press(0, 0, false);
        x.carry(0);
        x.leave(0, 0);
        x.leave(0, 1);
        String before = Check.about(x, 0, 0, 0, 14) + Check.about(x, 0, 1, 0, 14);
        check.same("all are carried", x.run(200), 4);
        check.same("about", Check.about(x, 0, 0, 0, 14) + Check.about(x, 0, 1, 0, 14), before);

        TalkNet y = Check.withMembers(0, 2);
        y.press(0, 0, false);
        y.leave(0, 0);
        y.twice(0);
        check.same("its REQUEST is not heard", Check.server(y, 0), "0 -1 0 0 -1 -1");
        y.member(0, 0, 1);
        y.carry(0);
        check.same("but is when it is there again", y.server(0, 1), 0);
        y.carry(0);
        check.same("it does not ask, so it is not granted", y.about(0, 0, 2), 0);
    }

    private static void absentsMessagesStay() {
        check.part("what an absent member sent is on its way");
        TalkNet x = Check.withMembers(0, 3);
        x.press(0, 0, false);
        x.run(200);
        x.unit(0, 0, 8);
        x.leave(0, 0);
        x.carry(0);
        check.same("its UNIT is passed", Check.row(x), "GATE 0/0 1 -1 0; PASSED 0/1 1 0 8; PASSED 0/2 1 0 8");
        check.same("but not of the holder's grant", x.server(0, 5), -1);

        TalkNet y = Check.withMembers(0, 1);
        y.press(0, 0, false);
        y.release(0, 0);
        y.leave(0, 0);
        y.carry(1);
        y.member(0, 0, 1);
        y.carry(0);
        check.same("its RELEASE counts", Check.server(y, 0), "0 -1 0 0 -1 -1");
        check.same("nothing sent", y.messages(), 0);
    }
}
