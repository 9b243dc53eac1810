/** Promise 15: a tick, and what it does to holders and sends. */
public final class TickTest {
    private static final Check check = new Check();

    public static void main(String[] args) {
        time();
        longest();
        idle();
        idleAfterUnits();
        grace();
        noGrace();
        ended();
        talkers();
        groupsInOrder();
        check.end();
    }

    private static void time() {
        check.part("promise 15");
        TalkNet x = new TalkNet();
        for (int i = 1; i <= 12; i++) {
            check.same("time", x.tick(), i);
        }
        check.same("nothing sent", x.messages(), 0);
    }

    /** Ticks until there is no holder, with a unit passed on each of the first ticks. */
    private static int ticksOfHolder(int longest, int idle, int unitsOnFirst) {
        TalkNet x = Check.withMembers(0, 1);
        x.rules(0, false, longest, idle, 0);
        Check.ticks(x, 2);
        x.press(0, 0, false);
        x.run(200);
        for (int ticks = 0; ticks < 200; ticks++) {
            if (x.server(0, 1) < 0) {
                return ticks;
            }
            if (ticks > 0 && ticks <= unitsOnFirst) {
                x.unit(0, 0, 1);
                x.run(1);
            }
            x.tick();
        }
        return -1;
    }

    private static void longest() {
        check.part("promise 15, LONGEST");
        check.same("1", ticksOfHolder(1, 50, 0), 1);
        check.same("7", ticksOfHolder(7, 50, 0), 7);
        check.same("7 with units", ticksOfHolder(7, 2, 60), 7);
        check.same("60 with units", ticksOfHolder(60, 2, 64), 60);
    }

    private static void idle() {
        check.part("promise 15, IDLE");
        check.same("1", ticksOfHolder(100, 1, 0), 1);
        check.same("50", ticksOfHolder(100, 50, 0), 50);
    }

    private static void idleAfterUnits() {
        check.part("promise 15, IDLE since the last unit");
        check.same("units on 3 ticks", ticksOfHolder(100, 4, 3), 3 + 4);
        TalkNet x = Check.withTalker(0, 1);
        Check.ticks(x, 10);
        x.unit(0, 0, 1);
        x.twice(0);
        check.same("passed at 10", x.server(0, 5), 10);
        Check.ticks(x, 15);
        x.carry(0);
        check.same("a stopped one does not count", x.server(0, 5), 10);
        Check.ticks(x, 4);
        check.same("holds", x.server(0, 1), 0);
        x.tick();
        check.same("20 ticks went by", x.server(0, 1), -1);
    }

    private static TalkNet revoked(int grace) {
        TalkNet x = Check.withMembers(0, 2);
        x.rules(0, true, 100, 50, grace);
        x.press(0, 0, false);
        x.run(200);
        Check.ticks(x, 3);
        x.press(0, 1, true);
        x.run(200);
        return x;
    }

    private static void grace() {
        check.part("promise 15, GRACE");
        TalkNet x = revoked(3);
        Check.ticks(x, 2);
        check.same("after 2", Check.server(x, 0), "1 0 1 1 0 -1");
        x.tick();
        check.same("after 3", Check.server(x, 0), "2 1 0 0 6 -1");
    }

    private static void noGrace() {
        check.part("promise 15, no GRACE");
        TalkNet x = revoked(0);
        check.same("in the same tick", x.server(0, 1), 0);
        x.tick();
        check.same("on the next", x.server(0, 1), 1);
    }

    private static void ended() {
        check.part("promise 15, ENDED");
        TalkNet x = revoked(1);
        Check.dropAll(x);
        x.tick();
        check.same("ENDED first", Check.row(x),
            "ENDED 0/0 1 0 0; GRANTED 0/1 1 2 0; GATE 0/1 2 1 0; TALKER 0/0 2 1 0");
        TalkNet y = Check.withTalker(0, 2);
        y.rules(0, false, 1, 1, 0);
        Check.ticks(y, 19);
        Check.dropAll(y);
        y.tick();
        check.same("and no TALKER of nobody", Check.row(y), "ENDED 0/0 1 0 0; GATE 0/0 1 -1 0");
    }

    private static void talkers() {
        check.part("promise 15, TALKER every 5 ticks");
        TalkNet x = Check.withTalker(0, 4);
        x.leave(0, 2);
        Check.ticks(x, 4);
        check.same("none before", x.messages(), 0);
        x.tick();
        check.same("at 5", Check.row(x), "TALKER 0/1 1 0 0; TALKER 0/3 1 0 0");
        Check.dropAll(x);
        Check.ticks(x, 5);
        check.same("at 10", x.messages(), 2);

        TalkNet y = Check.withMembers(0, 2);
        y.rules(0, false, 5, 50, 0);
        y.press(0, 0, false);
        y.run(200);
        y.press(0, 1, false);
        y.run(200);
        Check.ticks(y, 4);
        Check.dropAll(y);
        y.tick();
        check.same("of the one that just began", Check.row(y), "ENDED 0/0 1 0 0; GRANTED 0/1 1 2 0; GATE 0/1 2 1 0; "
            + "TALKER 0/0 2 1 0; TALKER 0/0 2 1 0");
    }

    private static void groupsInOrder() {
        check.part("promise 15, groups");
        TalkNet x = new TalkNet();
        for (int group = 2; group >= 0; group--) {
            x.rules(group, false, 5, 5, 0);
            x.member(group, 3, 0);
            x.member(group, 1, 0);
            x.press(group, 3, false);
        }
        x.rules(1, false, 9, 9, 0);
        x.run(200);
        Check.ticks(x, 5);
        check.same("by number", Check.row(x),
            "ENDED 0/3 1 0 0; GATE 0/0 1 -1 0; TALKER 1/1 1 3 0; ENDED 2/3 1 0 0; GATE 2/0 1 -1 0");
    }
}
