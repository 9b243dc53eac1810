import java.util.NoSuchElementException;

/** Promises 5 to 8, and what comes to a member: press, again, release, unit. */
public final class TalkerTest {
    private static final Check check = new Check();
    private static final int[][] NONE = {{-1, 0}, {3, 0}, {0, -1}, {0, 6}};

    public static void main(String[] args) {
        press();
        again();
        release();
        unit();
        mostUnits();
        grantedComes();
        queuedComes();
        deniedComes();
        revokedAndEndedCome();
        talkerComes();
        check.end();
    }

    private static void press() {
        check.part("promise 5");
        TalkNet x = Check.withMembers(1, 2);
        check.same("number", x.press(1, 0, false), 1);
        check.same("number of another", x.press(1, 1, true), 1);
        check.same("row", Check.row(x), "REQUEST 1/0 1 0 0; REQUEST 1/1 1 1 0");
        check.same("it asked", Check.about(x, 1, 0, 2, 3), "1 1");
        check.fails(x, "press when it asked", IllegalStateException.class, () -> x.press(1, 0, false));
        x.run(200);
        check.fails(x, "press when granted", IllegalStateException.class, () -> x.press(1, 0, false));
        check.fails(x, "press when queued", IllegalStateException.class, () -> x.press(1, 1, false));
        check.fails(x, "press when not there", IllegalStateException.class, () -> x.press(1, 2, false));
        x.release(1, 0);
        check.same("next number", x.press(1, 0, false), 2);
        for (int[] n : NONE) {
            check.fails(x, "press " + n[0] + " " + n[1], NoSuchElementException.class, () -> x.press(n[0], n[1], true));
        }
    }

    private static void again() {
        check.part("promise 6");
        TalkNet x = Check.withMembers(0, 3);
        x.press(0, 0, true);
        x.again(0, 0);
        check.same("the same twice", Check.row(x), "REQUEST 0/0 1 1 0; REQUEST 0/0 1 1 0");
        check.same("still asked", Check.about(x, 0, 0, 2, 3), "1 1");
        x.run(200);
        check.fails(x, "again when granted", IllegalStateException.class, () -> x.again(0, 0));
        x.press(0, 1, false);
        x.run(200);
        x.again(0, 1);
        check.same("queued", Check.row(x), "REQUEST 0/1 1 0 0");
        check.fails(x, "again with none", IllegalStateException.class, () -> x.again(0, 2));
        check.fails(x, "again when not there", IllegalStateException.class, () -> x.again(0, 3));
        for (int[] n : NONE) {
            check.fails(x, "again " + n[0] + " " + n[1], NoSuchElementException.class, () -> x.again(n[0], n[1]));
        }
        TalkNet revoked = revokedTalker();
        check.fails(revoked, "again when revoked", IllegalStateException.class, () -> revoked.again(0, 0));
    }

    private static TalkNet revokedTalker() {
        TalkNet x = Check.withMembers(0, 2);
        x.rules(0, true, 50, 20, 5);
        x.press(0, 0, false);
        x.run(200);
        x.press(0, 1, true);
        x.run(200);
        check.same("revoked", x.about(0, 0, 2), 4);
        return x;
    }

    private static void release() {
        check.part("promise 7");
        TalkNet x = Check.withMembers(0, 2);
        x.press(0, 0, true);
        x.release(0, 0);
        check.same("row", Check.row(x), "REQUEST 0/0 1 1 0; RELEASE 0/0 1 0 0");
        check.same("has none", x.about(0, 0, 2), 0);
        check.fails(x, "release with none", IllegalStateException.class, () -> x.release(0, 0));
        check.fails(x, "release when not there", IllegalStateException.class, () -> x.release(0, 2));
        for (int[] n : NONE) {
            check.fails(x, "release " + n[0] + " " + n[1], NoSuchElementException.class, () -> x.release(n[0], n[1]));
        }
        TalkNet y = Check.withTalker(0, 2);
        y.press(0, 1, false);
        y.run(200);
        y.release(0, 0);
        y.release(0, 1);
        check.same("granted and queued", Check.row(y), "RELEASE 0/0 1 0 0; RELEASE 0/1 1 0 0");
        TalkNet z = revokedTalker();
        z.release(0, 0);
        check.same("revoked", Check.row(z), "RELEASE 0/0 1 0 0");
        check.same("has none", z.about(0, 0, 2), 0);
    }

    private static void unit() {
        check.part("promise 8");
        TalkNet x = Check.withTalker(2, 2);
        check.same("first", x.unit(2, 0, -5), 0);
        check.same("second", x.unit(2, 0, Integer.MAX_VALUE), 1);
        check.same("row", Check.row(x), "UNIT 2/0 1 0 -5; UNIT 2/0 1 1 2147483647");
        check.same("sent", x.about(2, 0, 6), 2);
        check.fails(x, "unit with none", IllegalStateException.class, () -> x.unit(2, 1, 1));
        x.press(2, 1, false);
        check.fails(x, "unit when it asked", IllegalStateException.class, () -> x.unit(2, 1, 1));
        x.run(200);
        check.fails(x, "unit when queued", IllegalStateException.class, () -> x.unit(2, 1, 1));
        check.fails(x, "unit when not there", IllegalStateException.class, () -> x.unit(2, 2, 1));
        for (int[] n : NONE) {
            check.fails(x, "unit " + n[0] + " " + n[1], NoSuchElementException.class, () -> x.unit(n[0], n[1], 1));
        }
        TalkNet y = revokedTalker();
        check.same("when revoked", y.unit(0, 0, 4), 0);
        check.same("row when revoked", Check.row(y), "UNIT 0/0 1 0 4");
        y.release(0, 0);
        y.run(200);
        check.same("sent stays", y.about(0, 0, 6), 1);
    }

    private static void mostUnits() {
        check.part("promise 8, 64 units");
        TalkNet x = Check.withTalker(0, 1);
        for (int i = 0; i < 64; i++) {
            check.same("number", x.unit(0, 0, i), i);
            x.drop(0);
        }
        check.fails(x, "one more", UnsupportedOperationException.class, () -> x.unit(0, 0, 1));
        x.release(0, 0);
        check.fails(x, "the state comes first", IllegalStateException.class, () -> x.unit(0, 0, 1));
        x.press(0, 0, false);
        x.run(200);
        check.same("a new grant starts anew", x.unit(0, 0, 1), 0);
        check.same("row", Check.row(x), "UNIT 0/0 2 0 1");
    }

    private static void grantedComes() {
        check.part("GRANTED comes");
        TalkNet x = Check.withMembers(0, 1);
        x.press(0, 0, false);
        x.carry(0);
        x.twice(0);
        check.same("granted", Check.about(x, 0, 0, 2, 6), "3 1 0 1 0");
        x.unit(0, 0, 1);
        x.twice(0);
        check.same("again, when granted: nothing", Check.about(x, 0, 0, 2, 6), "3 1 0 1 1");
        x.release(0, 0);
        x.twice(0);
        check.same("with none: nothing", x.about(0, 0, 2), 0);
        x.press(0, 0, false);
        x.twice(0);
        check.same("another request's: nothing", x.about(0, 0, 2), 1);
    }

    private static void queuedComes() {
        check.part("QUEUED comes");
        TalkNet x = Check.withTalker(0, 3);
        x.press(0, 1, false);
        x.press(0, 2, false);
        x.carry(0);
        x.carry(0);
        check.same("row", Check.row(x), "QUEUED 0/1 1 0 0; QUEUED 0/2 1 1 0");
        x.twice(1);
        check.same("queued", Check.about(x, 0, 2, 2, 4), "2 1 1");
        x.leave(0, 1);
        x.again(0, 2);
        x.carry(2);
        x.carry(2);
        check.same("when queued: a new place", Check.about(x, 0, 2, 2, 4), "2 1 0");
        x.release(0, 2);
        x.twice(1);
        check.same("with none: nothing", Check.about(x, 0, 2, 2, 4), "0 1 0");
        x.press(0, 2, false);
        x.twice(1);
        check.same("another request's: nothing", Check.about(x, 0, 2, 2, 4), "1 2 0");
    }

    private static void deniedComes() {
        check.part("DENIED comes");
        TalkNet x = Check.withTalker(0, 6);
        for (int member = 1; member < 6; member++) {
            x.press(0, member, false);
        }
        x.run(5);
        check.same("the last is denied", Check.row(x).endsWith("; DENIED 0/5 1 0 0"), true);
        x.twice(4);
        check.same("has none", Check.about(x, 0, 5, 2, 3), "0 1");
        x.press(0, 5, false);
        x.twice(4);
        check.same("another request's: nothing", Check.about(x, 0, 5, 2, 3), "1 2");

        TalkNet y = Check.withTalker(0, 6);
        for (int member = 1; member < 6; member++) {
            y.press(0, member, false);
        }
        y.run(5);
        y.run(4);
        y.again(0, 5);
        y.carry(1);
        check.same("two denials", Check.row(y), "DENIED 0/5 1 0 0; DENIED 0/5 1 0 0");
        y.run(200);
        check.same("none", y.about(0, 5, 2), 0);

        TalkNet z = Check.withTalker(0, 6);
        for (int member = 1; member < 5; member++) {
            z.press(0, member, false);
        }
        z.run(200);
        check.same("queued", Check.about(z, 0, 4, 2, 4), "2 1 3");
        z.release(0, 4);
        z.press(0, 5, false);
        z.press(0, 4, false);
        z.run(200);
        check.same("denied, and the place that it was told stays", Check.about(z, 0, 4, 2, 4), "0 2 3");
    }

    private static void revokedAndEndedCome() {
        check.part("REVOKED and ENDED come");
        TalkNet x = Check.withMembers(0, 2);
        x.rules(0, true, 50, 20, 1);
        x.press(0, 0, false);
        x.run(200);
        x.press(0, 1, true);
        x.carry(0);
        x.carry(0);
        x.twice(0);
        check.same("revoked", Check.about(x, 0, 0, 2, 5), "4 1 0 1");
        x.tick();
        check.same("row", Check.row(x),
            "REVOKED 0/0 1 0 0; ENDED 0/0 1 0 0; GRANTED 0/1 1 2 0; GATE 0/1 2 1 0; TALKER 0/0 2 1 0");
        x.twice(1);
        check.same("ended", Check.about(x, 0, 0, 2, 5), "0 1 0 1");
        x.twice(0);
        check.same("revoked with none: nothing", x.about(0, 0, 2), 0);
        x.press(0, 0, false);
        x.twice(0);
        x.twice(1);
        check.same("revoked or ended when it asked: nothing", x.about(0, 0, 2), 1);
        x.carry(5);
        x.carry(2);
        x.release(0, 1);
        x.carry(5);
        x.carry(5);
        check.same("granted 3", Check.about(x, 0, 0, 2, 5), "3 2 0 3");
        x.carry(0);
        x.carry(0);
        check.same("of another grant: nothing", Check.about(x, 0, 0, 2, 5), "3 2 0 3");

        TalkNet y = Check.withTalker(0, 1);
        Check.ticks(y, 20);
        check.same("row", Check.row(y), "ENDED 0/0 1 0 0; GATE 0/0 1 -1 0");
        y.carry(0);
        check.same("ended when granted", y.about(0, 0, 2), 0);
    }

    private static void talkerComes() {
        check.part("TALKER comes");
        TalkNet x = Check.withMembers(0, 3);
        x.press(0, 0, false);
        x.run(3);
        check.same("row", Check.row(x), "TALKER 0/1 1 0 0; TALKER 0/2 1 0 0");
        x.press(0, 1, false);
        x.carry(2);
        x.leave(0, 0);
        check.same("row", Check.row(x).endsWith("TALKER 0/2 2 1 0"), true);
        x.carry(x.messages() - 1);
        check.same("sees 1", x.about(0, 2, 7), 1);
        x.carry(1);
        check.same("an older one: nothing", x.about(0, 2, 7), 1);
        check.same("another one sees nobody yet", x.about(0, 1, 7), -1);
        x.carry(0);
        check.same("an older one that is its first", x.about(0, 1, 7), 0);
    }
}
