import java.util.NoSuchElementException;

/** Promises 9 to 14 and 20: the row of messages, what is carried, dropped and lost. */
public final class RowTest {
    private static final Check check = new Check();

    public static void main(String[] args) {
        messages();
        message();
        carry();
        carryFromAFullRow();
        twice();
        twiceInAFullRow();
        drop();
        run();
        lost();
        check.end();
    }

    private static void messages() {
        check.part("promise 9");
        TalkNet x = Check.withMembers(0, 2);
        check.same("none", x.messages(), 0);
        x.press(0, 0, false);
        x.press(0, 1, false);
        check.same("two", x.messages(), 2);
        x.carry(0);
        check.same("GRANTED, GATE and TALKER more", x.messages(), 4);
    }

    private static void message() {
        check.part("promise 10");
        TalkNet x = Check.withTalker(2, 2);
        check.fails(x, "none there", NoSuchElementException.class, () -> x.message(0, 0));
        x.unit(2, 0, 70);
        x.unit(2, 0, 71);
        int[] due = {11, 2, 0, 1, 1, 71};
        for (int what = 0; what < 6; what++) {
            check.same("what " + what, x.message(1, what), due[what]);
        }
        check.fails(x, "what 6", IndexOutOfBoundsException.class, () -> x.message(0, 6));
        check.fails(x, "what -1", IndexOutOfBoundsException.class, () -> x.message(0, -1));
        check.fails(x, "k 2", NoSuchElementException.class, () -> x.message(2, 0));
        check.fails(x, "k -1", NoSuchElementException.class, () -> x.message(-1, 0));
        check.fails(x, "both wrong", NoSuchElementException.class, () -> x.message(2, 6));
    }

    private static void carry() {
        check.part("promise 11");
        TalkNet x = Check.withMembers(0, 3);
        x.member(1, 4, 0);
        x.press(0, 2, false);
        x.press(1, 4, false);
        x.press(0, 1, false);
        x.carry(1);
        check.same("out of the row, what it sends behind", Check.row(x),
            "REQUEST 0/2 1 0 0; REQUEST 0/1 1 0 0; GRANTED 1/4 1 1 0; GATE 1/4 1 4 0");
        x.carry(3);
        check.same("the last", Check.relay(x, 1), "1 4 0 0");
        check.fails(x, "carry(-1)", NoSuchElementException.class, () -> x.carry(-1));
        check.fails(x, "carry(3)", NoSuchElementException.class, () -> x.carry(3));
    }

    /** What a carried message says must not be overwritten by what it sends. */
    private static void carryFromAFullRow() {
        check.part("promise 11, a full row");
        TalkNet x = Check.withTalker(0, 6);
        for (int i = 0; i < 60; i++) {
            x.unit(0, 0, 100 + i);
        }
        x.carry(30);
        check.same("one place was free", x.messages(), 60);
        check.same("lost", x.lost(), 4);
        check.same("passed first", Check.row(x).endsWith("; UNIT 0/0 1 59 159; PASSED 0/1 1 30 130"), true);
        x.drop(0);
        x.drop(0);
        x.drop(0);
        x.carry(56);
        check.same("the listener got it", Check.about(x, 0, 1, 8, 10), "1 1 30");
        Check.ticks(x, 2);
        check.same("and its value", x.about(0, 1, 14), 130);
    }

    private static void twice() {
        check.part("promise 12");
        TalkNet x = Check.withMembers(0, 2);
        x.press(0, 0, false);
        x.press(0, 1, false);
        x.twice(1);
        check.same("stays, what it sends is behind", Check.row(x),
            "REQUEST 0/0 1 0 0; REQUEST 0/1 1 0 0; GRANTED 0/1 1 1 0; GATE 0/1 1 1 0; TALKER 0/0 1 1 0");
        x.twice(1);
        check.same("comes a second time", Check.row(x).endsWith("TALKER 0/0 1 1 0; GRANTED 0/1 1 1 0"), true);
        check.fails(x, "twice(-1)", NoSuchElementException.class, () -> x.twice(-1));
        check.fails(x, "twice(6)", NoSuchElementException.class, () -> x.twice(6));
    }

    private static void twiceInAFullRow() {
        check.part("promise 12, a full row");
        TalkNet x = Check.withTalker(0, 3);
        for (int i = 0; i < 60; i++) {
            x.unit(0, 0, i);
        }
        String before = Check.row(x);
        x.twice(5);
        check.same("all is lost that it sends", Check.row(x), before);
        check.same("lost", x.lost(), 2);
        check.same("but it came", Check.relay(x, 0), "1 0 1 0");
    }

    private static void drop() {
        check.part("promise 13");
        TalkNet x = Check.withMembers(0, 3);
        for (int member = 0; member < 3; member++) {
            x.press(0, member, false);
        }
        x.drop(1);
        check.same("row", Check.row(x), "REQUEST 0/0 1 0 0; REQUEST 0/2 1 0 0");
        check.same("it did not come", Check.server(x, 0), "0 -1 0 0 -1 -1");
        check.same("that is not lost", x.lost(), 0);
        check.fails(x, "drop(-1)", NoSuchElementException.class, () -> x.drop(-1));
        check.fails(x, "drop(2)", NoSuchElementException.class, () -> x.drop(2));
        x.drop(1);
        x.drop(0);
        check.fails(x, "drop(0)", NoSuchElementException.class, () -> x.drop(0));
    }

    private static void run() {
        check.part("promise 14");
        TalkNet x = Check.withMembers(0, 3);
        check.same("none", x.run(200), 0);
        x.press(0, 0, false);
        x.press(0, 1, false);
        check.same("none wanted", x.run(0), 0);
        check.same("all stay", x.messages(), 2);
        check.same("one", x.run(1), 1);
        check.same("in their order", Check.row(x),
            "REQUEST 0/1 1 0 0; GRANTED 0/0 1 1 0; GATE 0/0 1 0 0; TALKER 0/1 1 0 0; TALKER 0/2 1 0 0");
        check.same("those that this makes, too", x.run(200), 6);
        check.same("none left", x.messages(), 0);
        check.fails(x, "run(-1)", IllegalArgumentException.class, () -> x.run(-1));
        check.fails(x, "run(201)", IllegalArgumentException.class, () -> x.run(201));

        TalkNet y = Check.withTalker(0, 6);
        for (int i = 0; i < 40; i++) {
            y.unit(0, 0, i);
        }
        check.same("stops at n", y.run(9), 9);
        check.same("the first ones passed", y.relay(0, 2), 9);
        check.same("row", y.messages() + " " + y.lost(), "60 " + (40 - 9 + 5 * 9 - 60));

        TalkNet z = Check.withTalker(0, 6);
        for (int i = 0; i < 60; i++) {
            z.unit(0, 0, i);
        }
        check.same("run to the end", z.run(200), 60 + 60);
        check.same("each carried made place for one", z.lost(), 60 * 4);
    }

    private static void lost() {
        check.part("promise 20");
        TalkNet x = Check.withTalker(0, 2);
        for (int i = 0; i < 60; i++) {
            x.unit(0, 0, i);
        }
        check.same("60 fit", x.messages() + " " + x.lost(), "60 0");
        check.same("the number is told all the same", x.unit(0, 0, 7), 60);
        check.same("one is lost", x.messages() + " " + x.lost(), "60 1");
        check.same("last in the row", Check.row(x).endsWith("UNIT 0/0 1 59 59"), true);
        x.release(0, 0);
        check.same("a lost RELEASE", x.lost() + " " + x.about(0, 0, 2), "2 0");
        x.press(0, 0, false);
        check.same("a lost REQUEST", x.lost() + " " + x.about(0, 0, 2), "3 1");
        x.again(0, 0);
        check.same("lost again", x.lost(), 4);
        x.drop(0);
        x.again(0, 0);
        check.same("now there is place", x.lost() + " " + x.messages(), "4 60");
        Check.ticks(x, 20);
        check.same("ENDED, GATE and TALKERs are lost", x.lost(), 4 + 3 + 2);
        check.same("the server's state is not", x.server(0, 1), -1);
    }
}
