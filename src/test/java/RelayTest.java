import java.util.NoSuchElementException;

/** Promise 18, and what comes to the relay: GATE and UNIT. */
public final class RelayTest {
    private static final Check check = new Check();

    public static void main(String[] args) {
        relay();
        gateComes();
        gateOutOfOrder();
        unitPasses();
        unitStops();
        oldGrantPasses();
        allUnits();
        check.end();
    }

    private static void relay() {
        check.part("promise 18");
        TalkNet x = Check.withTalker(1, 2);
        check.same("gate", Check.relay(x, 1), "1 0 0 0");
        check.same("another group's", Check.relay(x, 0), "0 -1 0 0");
        x.unit(1, 0, 5);
        x.twice(0);
        x.carry(0);
        check.same("one passed, one stopped", Check.relay(x, 1), "1 0 1 1");
        x.release(1, 0);
        x.run(200);
        check.same("nobody", Check.relay(x, 1), "1 -1 1 1");
        x.press(1, 1, false);
        x.run(200);
        check.same("the numbers stay with a new grant", Check.relay(x, 1), "2 1 1 1");
        check.fails(x, "group 3", NoSuchElementException.class, () -> x.relay(3, 0));
        check.fails(x, "group -1", NoSuchElementException.class, () -> x.relay(-1, 4));
        check.fails(x, "what 4", IndexOutOfBoundsException.class, () -> x.relay(0, 4));
        check.fails(x, "what -1", IndexOutOfBoundsException.class, () -> x.relay(0, -1));
    }

    private static void gateComes() {
        check.part("GATE comes");
        TalkNet x = Check.withMembers(0, 1);
        x.press(0, 0, false);
        x.carry(0);
        x.carry(0);
        x.release(0, 0);
        x.carry(1);
        check.same("row", Check.row(x), "GATE 0/0 1 0 0; GATE 0/0 1 -1 0");
        x.twice(0);
        check.same("a new grant", Check.relay(x, 0), "1 0 0 0");
        x.twice(1);
        check.same("equal, nobody", Check.relay(x, 0), "1 -1 0 0");
        x.twice(0);
        check.same("equal, somebody: nothing", Check.relay(x, 0), "1 -1 0 0");
    }

    private static void gateOutOfOrder() {
        check.part("GATE comes out of order");
        TalkNet x = Check.withMembers(0, 2);
        x.press(0, 0, false);
        x.carry(0);
        x.carry(0);
        x.drop(1);
        x.release(0, 0);
        x.carry(1);
        check.same("row", Check.row(x), "GATE 0/0 1 0 0; GATE 0/0 1 -1 0");
        x.twice(1);
        check.same("a greater one with nobody", Check.relay(x, 0), "1 -1 0 0");
        x.press(0, 1, false);
        x.carry(2);
        x.carry(3);
        check.same("the next", Check.relay(x, 0), "2 1 0 0");
        x.carry(0);
        x.carry(0);
        check.same("older ones, with nobody too: nothing", Check.relay(x, 0), "2 1 0 0");
    }

    private static void unitPasses() {
        check.part("UNIT passes");
        TalkNet x = Check.withMembers(2, 5);
        x.press(2, 2, false);
        x.run(200);
        x.leave(2, 3);
        x.unit(2, 2, 8);
        x.unit(2, 2, -9);
        Check.ticks(x, 2);
        x.carry(1);
        check.same("to all others that are there", Check.row(x), "UNIT 2/2 1 0 8; "
            + "PASSED 2/0 1 1 -9; PASSED 2/1 1 1 -9; PASSED 2/4 1 1 -9");
        check.same("the server knows the tick", x.server(2, 5), 2);
        x.tick();
        x.carry(0);
        check.same("and that of a smaller number", Check.relay(x, 2) + ", " + x.server(2, 5), "1 2 2 0, 3");
    }

    private static void unitStops() {
        check.part("UNIT stops");
        TalkNet x = Check.withMembers(0, 2);
        x.press(0, 0, false);
        x.carry(0);
        x.carry(0);
        x.unit(0, 0, 1);
        x.twice(2);
        check.same("no gate yet", Check.relay(x, 0), "0 -1 0 1");
        x.carry(0);
        x.twice(1);
        check.same("passed", Check.relay(x, 0), "1 0 1 1");
        x.tick();
        x.twice(1);
        check.same("passed already", Check.relay(x, 0) + ", " + x.server(0, 5), "1 0 1 2, 0");
        Check.dropAll(x);
        x.unit(0, 0, 2);
        x.release(0, 0);
        x.carry(1);
        x.carry(1);
        x.carry(0);
        check.same("nobody has the gate", Check.relay(x, 0), "1 -1 1 3");
        x.press(0, 0, false);
        x.run(200);
        x.unit(0, 0, 3);
        x.carry(0);
        check.same("of a new grant none was passed", Check.relay(x, 0), "2 0 2 3");
        Check.dropAll(x);
        x.unit(0, 0, 4);
        x.release(0, 0);
        x.press(0, 0, false);
        x.carry(1);
        x.carry(1);
        x.run(0);
        while (x.messages() > 1) {
            x.carry(1);
        }
        check.same("next grant", x.relay(0, 0), 3);
        x.carry(0);
        check.same("a unit of an older grant", Check.relay(x, 0), "3 0 2 4");
    }

    /** The relay knows only the gate that it was told. */
    private static void oldGrantPasses() {
        check.part("UNIT of a grant that is over at the server");
        TalkNet x = Check.withTalker(0, 3);
        x.press(0, 1, false);
        x.run(200);
        x.unit(0, 0, 6);
        x.release(0, 0);
        x.carry(1);
        x.carry(0);
        check.same("passes while the gate is not told", Check.relay(x, 0), "1 0 1 0");
        check.same("but it is not the holder's", Check.server(x, 0), "2 1 0 0 0 -1");
        x.carry(0);
        check.same("granted 2", Check.about(x, 0, 1, 5, 5), "2");
        x.unit(0, 1, 7);
        x.carry(x.messages() - 1);
        check.same("a unit of a newer grant than the gate's stops", Check.relay(x, 0), "1 0 1 1");
    }

    private static void allUnits() {
        check.part("64 UNITs");
        TalkNet x = Check.withTalker(0, 1);
        for (int i = 0; i < 64; i++) {
            x.unit(0, 0, i);
            x.twice(0);
            x.carry(0);
        }
        check.same("each passes once", Check.relay(x, 0), "1 0 64 64");
    }
}
