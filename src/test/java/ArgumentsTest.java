import java.util.NoSuchElementException;

/**
 * Every argument that the document bounds, at its bounds and on both sides of them, call by call;
 * which exception comes first where several fit; and that a refused call changes nothing.
 */
public final class ArgumentsTest {
    private static final Check check = new Check();
    private static final int LOW = Integer.MIN_VALUE;
    private static final int HIGH = Integer.MAX_VALUE;
    private static final int[] NO_GROUPS = {LOW, -1, 3, HIGH};
    private static final int[] NO_MEMBERS = {LOW, -1, 6, HIGH};

    private interface OfGroup {
        void on(TalkNet x, int group);
    }

    private interface OfMember {
        void on(TalkNet x, int group, int member);
    }

    private interface OfNumber {
        void on(TalkNet x, int number);
    }

    public static void main(String[] args) {
        groups();
        members();
        eachGroupAndMember();
        longest();
        idle();
        grace();
        rulesOrder();
        priorities();
        messageNumbers();
        messageWhats();
        runs();
        serverWhats();
        places();
        relayWhats();
        aboutWhats();
        memberBeforeState();
        stateBeforeUnits();
        refusedRulesLeaveRules();
        refusedPressLeavesEmergency();
        refusedCallsLeaveTime();
        check.end();
    }

    /** Member 0 of each group has the floor, 1 waits, 2 has none; the others are not there. */
    private static TalkNet inTalk() {
        TalkNet x = new TalkNet();
        for (int group = 0; group < 3; group++) {
            for (int member = 0; member < 3; member++) {
                x.member(group, member, 3);
            }
            x.press(group, 0, false);
            x.press(group, 1, false);
        }
        x.run(200);
        return x;
    }

    private static void refused(String call, Class<? extends RuntimeException> due, OfNumber of, int... numbers) {
        TalkNet x = inTalk();
        for (int number : numbers) {
            check.fails(x, call + " with " + number, due, () -> of.on(x, number));
        }
    }

    private static void refusedGroups(String call, OfGroup of) {
        refused(call, NoSuchElementException.class, of::on, NO_GROUPS);
    }

    private static void refusedMembers(String call, OfMember of) {
        refused(call + ", group", NoSuchElementException.class, (x, group) -> of.on(x, group, 0), NO_GROUPS);
        for (int group = 0; group < 3; group++) {
            int right = group;
            refused(call + ", member of " + group, NoSuchElementException.class,
                (x, member) -> of.on(x, right, member), NO_MEMBERS);
        }
        refused(call + ", both", NoSuchElementException.class, (x, n) -> of.on(x, n, n), LOW, -1, 6, HIGH);
    }

    /** With the group wrong, whatever else is wrong as well. */
    private static void groups() {
        check.part("groups 0 .. 2");
        refusedGroups("rules", (x, group) -> x.rules(group, true, 1, 1, 0));
        refusedGroups("rules, numbers wrong too", (x, group) -> x.rules(group, true, 0, 51, -1));
        refusedGroups("server", (x, group) -> x.server(group, 0));
        refusedGroups("server, what wrong too", (x, group) -> x.server(group, 6));
        refusedGroups("waiting", (x, group) -> x.waiting(group, 0));
        refusedGroups("waiting, place wrong too", (x, group) -> x.waiting(group, -1));
        refusedGroups("relay", (x, group) -> x.relay(group, 0));
        refusedGroups("relay, what wrong too", (x, group) -> x.relay(group, 4));
    }

    private static void members() {
        check.part("members 0 .. 5");
        refusedMembers("member", (x, group, member) -> x.member(group, member, 0));
        refusedMembers("member, priority wrong too", (x, group, member) -> x.member(group, member, 8));
        refusedMembers("leave", (x, group, member) -> x.leave(group, member));
        refusedMembers("press", (x, group, member) -> x.press(group, member, true));
        refusedMembers("again", (x, group, member) -> x.again(group, member));
        refusedMembers("release", (x, group, member) -> x.release(group, member));
        refusedMembers("unit", (x, group, member) -> x.unit(group, member, 7));
        refusedMembers("about", (x, group, member) -> x.about(group, member, 0));
        refusedMembers("about, what wrong too", (x, group, member) -> x.about(group, member, 15));
    }

    /** All that is told of groups and members but for one: it must stay as it was. */
    private static String others(TalkNet x, int group, int member) {
        StringBuilder text = new StringBuilder();
        for (int g = 0; g < 3; g++) {
            text.append(g == group ? "" : Check.server(x, g) + Check.waiting(x, g) + Check.relay(x, g));
            for (int m = 0; m < 6; m++) {
                text.append(g == group && m == member ? "" : Check.about(x, g, m, 0, 14));
            }
        }
        return text.toString();
    }

    private static void eachGroupAndMember() {
        for (int group = 0; group < 3; group++) {
            for (int member = 0; member < 6; member++) {
                check.part("group " + group + ", member " + member);
                talksAlone(new TalkNet(), group, member);
            }
        }
    }

    /** Every call that names a group and a member reaches these, and no others. */
    private static void talksAlone(TalkNet x, int group, int member) {
        String where = " " + group + "/" + member;
        String before = others(x, group, member);
        x.rules(group, true, 100, 50, 20);
        x.member(group, member, 7);
        check.same("press", x.press(group, member, true), 1);
        x.again(group, member);
        check.same("asks", Check.row(x), "REQUEST" + where + " 1 1 0; REQUEST" + where + " 1 1 0");
        x.run(1);
        x.drop(0);
        check.same("is granted", Check.row(x), "GRANTED" + where + " 1 1 0; GATE" + where + " 1 " + member + " 0");
        x.run(200);
        check.same("server", Check.server(x, group), "1 " + member + " 0 0 0 -1");
        check.same("unit", x.unit(group, member, 9), 0);
        check.same("talks", Check.row(x), "UNIT" + where + " 1 0 9");
        x.run(200);
        check.same("relay", Check.relay(x, group), "1 " + member + " 1 0");
        check.same("about", Check.about(x, group, member, 0, 14), "1 7 3 1 0 1 1 -1 0 0 0 0 0 0 0");
        x.release(group, member);
        check.same("releases", Check.row(x), "RELEASE" + where + " 1 0 0");
        x.carry(0);
        check.same("is freed", Check.row(x), "GATE " + group + "/0 1 -1 0");
        check.same("leaves", x.leave(group, member), true);
        check.same("has left", x.about(group, member, 0), 0);
        check.same("the others", others(x, group, member), before);
    }

    private static void longest() {
        check.part("LONGEST 1 .. 100");
        refused("longest", IllegalArgumentException.class, (x, n) -> x.rules(0, true, n, 50, 20), LOW, -1, 0, 101, HIGH);
        TalkNet x = new TalkNet();
        for (int n : new int[] {1, 2, 99, 100}) {
            x.rules(0, true, n, 1, 0);
        }
    }

    private static void idle() {
        check.part("IDLE 1 .. 50");
        refused("idle", IllegalArgumentException.class, (x, n) -> x.rules(1, true, 100, n, 20), LOW, -1, 0, 51, HIGH);
        TalkNet x = new TalkNet();
        for (int n : new int[] {1, 2, 49, 50}) {
            x.rules(1, true, 1, n, 0);
        }
    }

    private static void grace() {
        check.part("GRACE 0 .. 20");
        refused("grace", IllegalArgumentException.class, (x, n) -> x.rules(2, true, 100, 50, n), LOW, -1, 21, HIGH);
        TalkNet x = new TalkNet();
        for (int n : new int[] {0, 1, 19, 20}) {
            x.rules(2, true, 1, 1, n);
        }
    }

    private static void rulesOrder() {
        check.part("rules' numbers are not taken for one another");
        refused("51 is no IDLE", IllegalArgumentException.class, (x, n) -> x.rules(0, false, 1, n, 0), 51, 100);
        refused("21 is no GRACE", IllegalArgumentException.class, (x, n) -> x.rules(0, false, 1, 1, n), 21, 50);
        refused("0 is a GRACE alone", IllegalArgumentException.class, (x, n) -> x.rules(0, false, n, n, n), 0);
    }

    private static void priorities() {
        check.part("priorities 0 .. 7");
        refused("of one that is there", IllegalArgumentException.class, (x, n) -> x.member(0, 1, n), LOW, -1, 8, HIGH);
        refused("of a new one", IllegalArgumentException.class, (x, n) -> x.member(0, 5, n), LOW, -1, 8, HIGH);
        TalkNet x = new TalkNet();
        for (int n : new int[] {0, 1, 6, 7}) {
            x.member(0, 5, n);
            check.same("priority", Check.about(x, 0, 5, 0, 1), "1 " + n);
        }
    }

    private static TalkNet withUnits(int n) {
        TalkNet x = Check.withTalker(0, 1);
        for (int i = 0; i < n; i++) {
            x.unit(0, 0, 100 + i);
        }
        return x;
    }

    private static void refusedMessages(TalkNet x, int... numbers) {
        String on = " of " + x.messages();
        for (int k : numbers) {
            check.fails(x, "message " + k + on, NoSuchElementException.class, () -> x.message(k, 0));
            check.fails(x, "message " + k + on + ", what wrong too", NoSuchElementException.class, () -> x.message(k, 6));
            check.fails(x, "carry " + k + on, NoSuchElementException.class, () -> x.carry(k));
            check.fails(x, "twice " + k + on, NoSuchElementException.class, () -> x.twice(k));
            check.fails(x, "drop " + k + on, NoSuchElementException.class, () -> x.drop(k));
        }
    }

    private static void messageNumbers() {
        check.part("message k, in a row that is empty, has one, is full");
        refusedMessages(new TalkNet(), LOW, -1, 0, 1, HIGH);
        refusedMessages(withUnits(1), LOW, -1, 1, 2, HIGH);
        refusedMessages(withUnits(60), LOW, -1, 60, 61, HIGH);
        check.same("the first of one", withUnits(1).message(0, 5), 100);
        TalkNet x = withUnits(60);
        check.same("the first of 60", x.message(0, 5), 100);
        check.same("the last of 60", x.message(59, 5), 159);
        x.twice(59);
        check.same("the last comes, and stays", x.messages() + " " + Check.relay(x, 0), "60 1 0 1 0");
        x.carry(59);
        check.same("the last comes, and goes", x.messages() + " " + Check.relay(x, 0), "59 1 0 1 1");
        x.drop(58);
        check.same("the last is dropped", x.messages() + " " + x.message(57, 5), "58 157");
        x.drop(0);
        check.same("the first is dropped", x.messages() + " " + x.message(0, 5), "57 101");
        refusedMessages(x, 57);
    }

    private static void messageWhats() {
        check.part("message's what 0 .. 5");
        TalkNet x = withUnits(1);
        check.same("kind", x.message(0, 0), 11);
        check.same("c", x.message(0, 5), 100);
        for (int what : new int[] {LOW, -1, 6, 7, HIGH}) {
            check.fails(x, "what " + what, IndexOutOfBoundsException.class, () -> x.message(0, what));
        }
    }

    private static void runs() {
        check.part("run 0 .. 200");
        TalkNet refused = withUnits(3);
        for (int n : new int[] {LOW, -1, 201, HIGH}) {
            check.fails(refused, "run " + n, IllegalArgumentException.class, () -> refused.run(n));
        }
        int[][] due = {{0, 0}, {1, 1}, {2, 2}, {3, 3}, {4, 3}, {199, 3}, {200, 3}};
        for (int[] d : due) {
            TalkNet x = withUnits(3);
            check.same("run " + d[0], x.run(d[0]) + " " + x.messages(), d[1] + " " + (3 - d[1]));
        }
        check.same("of none", new TalkNet().run(0) + " " + new TalkNet().run(200), "0 0");
    }

    private static void serverWhats() {
        check.part("server's what 0 .. 5");
        refused("server", IndexOutOfBoundsException.class, (x, what) -> x.server(2, what), LOW, -1, 6, 7, HIGH);
        check.same("0 to 5", Check.server(inTalk(), 2), "1 0 1 0 0 -1");
    }

    private static void places() {
        check.part("waiting's place");
        TalkNet x = Check.withTalker(0, 6);
        for (int wait = 0; wait <= 4; wait++) {
            check.same("wait", x.server(0, 2), wait);
            for (int place : new int[] {LOW, -1, wait, wait + 1, HIGH}) {
                check.fails(x, "place " + place + " of " + wait, IndexOutOfBoundsException.class,
                    () -> x.waiting(0, place));
            }
            for (int place = 0; place < wait; place++) {
                check.same("place " + place + " of " + wait, x.waiting(0, place), place + 1);
            }
            x.press(0, wait + 1, false);
            x.run(200);
        }
        x.release(0, 1);
        x.run(200);
        check.same("one less", Check.waiting(x, 0), "2 3 4");
        check.fails(x, "the place that was", IndexOutOfBoundsException.class, () -> x.waiting(0, 3));
    }

    private static void relayWhats() {
        check.part("relay's what 0 .. 3");
        refused("relay", IndexOutOfBoundsException.class, (x, what) -> x.relay(2, what), LOW, -1, 4, 5, HIGH);
        check.same("0 to 3", Check.relay(inTalk(), 2), "1 0 0 0");
    }

    private static void aboutWhats() {
        check.part("about's what 0 .. 14");
        refused("about", IndexOutOfBoundsException.class, (x, what) -> x.about(2, 1, what), LOW, -1, 15, 16, HIGH);
        refused("about an absent one", IndexOutOfBoundsException.class, (x, what) -> x.about(2, 5, what), -1, 15);
        check.same("0 to 14", Check.about(inTalk(), 2, 1, 0, 14), "1 3 2 1 0 0 0 0 0 0 0 0 0 0 0");
    }

    /** An absent member is one all the same: it is the state that is wrong. */
    private static void memberBeforeState() {
        check.part("not there, in another state");
        TalkNet x = inTalk();
        for (int member : new int[] {3, 5}) {
            check.fails(x, "press", IllegalStateException.class, () -> x.press(0, member, true));
            check.fails(x, "again", IllegalStateException.class, () -> x.again(0, member));
            check.fails(x, "release", IllegalStateException.class, () -> x.release(0, member));
            check.fails(x, "unit", IllegalStateException.class, () -> x.unit(0, member, 1));
            check.same("about is told", x.about(0, member, 0), 0);
            check.same("leave is answered", x.leave(0, member), false);
        }
        String before = Check.all(x);
        check.same("leave of one that never came", x.leave(2, 4), false);
        check.same("changes nothing", Check.all(x), before);
        x.leave(1, 0);
        String after = Check.all(x);
        check.same("a second leave", x.leave(1, 0), false);
        check.same("changes nothing", Check.all(x), after);
        check.fails(x, "press of one that left", IllegalStateException.class, () -> x.press(1, 0, true));
        check.fails(x, "unit of one that left", IllegalStateException.class, () -> x.unit(1, 0, 1));
    }

    private static void stateBeforeUnits() {
        check.part("64 units, and another exception too");
        TalkNet x = Check.withTalker(0, 2);
        for (int i = 0; i < 64; i++) {
            x.unit(0, 0, i);
            x.drop(0);
        }
        check.fails(x, "64 sent", UnsupportedOperationException.class, () -> x.unit(0, 0, 1));
        check.fails(x, "no such member", NoSuchElementException.class, () -> x.unit(0, 6, 1));
        x.leave(0, 0);
        check.fails(x, "not there", IllegalStateException.class, () -> x.unit(0, 0, 1));
        x.member(0, 0, 3);
        check.same("64 are told", Check.about(x, 0, 0, 2, 6), "0 1 0 1 64");
        check.fails(x, "there, with none", IllegalStateException.class, () -> x.unit(0, 0, 1));
        x.press(0, 0, false);
        check.fails(x, "asked", IllegalStateException.class, () -> x.unit(0, 0, 1));
    }

    private static void refusedRulesLeaveRules() {
        check.part("refused rules change none of the rules");
        int[][] bad = {{101, 1, 0}, {1, 51, 0}, {1, 1, 21}};
        for (int[] b : bad) {
            TalkNet x = Check.withMembers(0, 2);
            x.rules(0, true, 4, 50, 2);
            check.fails(x, "rules", IllegalArgumentException.class, () -> x.rules(0, false, b[0], b[1], b[2]));
            x.press(0, 0, false);
            x.run(200);
            Check.ticks(x, 1);
            x.press(0, 1, true);
            x.run(200);
            check.same("still preempts", x.server(0, 3), 1);
            x.tick();
            check.same("still a GRACE of 2, no IDLE of 1", x.server(0, 1), 0);
            x.tick();
            check.same("after the GRACE", x.server(0, 1), 1);
            Check.ticks(x, 3);
            check.same("still a LONGEST of 4", x.server(0, 1), 1);
            x.tick();
            check.same("after LONGEST", x.server(0, 1), -1);
        }
    }

    private static void refusedPressLeavesEmergency() {
        check.part("a refused press changes no request");
        TalkNet x = Check.withMembers(0, 2);
        x.press(0, 0, false);
        x.press(0, 1, true);
        check.fails(x, "press", IllegalStateException.class, () -> x.press(0, 0, true));
        check.fails(x, "press", IllegalStateException.class, () -> x.press(0, 1, false));
        x.again(0, 0);
        x.again(0, 1);
        check.same("sent again as they were", Check.row(x),
            "REQUEST 0/0 1 0 0; REQUEST 0/1 1 1 0; REQUEST 0/0 1 0 0; REQUEST 0/1 1 1 0");
    }

    private static void refusedCallsLeaveTime() {
        check.part("refused calls take no time");
        TalkNet x = inTalk();
        x.tick();
        check.fails(x, "run", IllegalArgumentException.class, () -> x.run(201));
        check.fails(x, "carry", NoSuchElementException.class, () -> x.carry(0));
        check.fails(x, "member", IllegalArgumentException.class, () -> x.member(0, 0, 8));
        check.fails(x, "unit", IllegalStateException.class, () -> x.unit(0, 2, 1));
        check.same("time", x.tick(), 2);
    }
}
