/**
 * One talk in which groups, members, requests, grants, places and ticks are all different numbers,
 * so that one that is taken for another is seen.
 */
public final class ApartTest {
    private static final Check check = new Check();
    private static final int G = 2;
    /** The number that each member's next request has. */
    private static final int[] REQUESTS = {4, 7, 5, 9, 6, 8};

    public static void main(String[] args) {
        TalkNet x = afterManyGrants();
        granted(x);
        queuedAndDenied(x);
        revokedAndEnded(x);
        left(x);
        askedAnew(x);
        releasedAhead(x);
        endedWithAPlace(x);
        check.end();
    }

    /** Time is 12, 33 grants were given and are over; each member has sent a unit under its last one. */
    private static TalkNet afterManyGrants() {
        TalkNet x = Check.withMembers(G, 6);
        x.rules(G, true, 50, 20, 2);
        for (int member = 0; member < 6; member++) {
            for (int i = 1; i < REQUESTS[member]; i++) {
                x.press(G, member, false);
                x.run(200);
                x.unit(G, member, 70);
                x.release(G, member);
                x.run(200);
            }
        }
        Check.ticks(x, 12);
        check.part("before");
        check.same("server", Check.server(x, G), "33 -1 0 0 -1 -1");
        check.same("relay", Check.relay(x, G), "33 -1 33 0");
        check.same("member 3", Check.about(x, G, 3, 0, 7), "1 3 0 8 0 21 1 5");
        return x;
    }

    private static void granted(TalkNet x) {
        check.part("granted");
        check.same("press", x.press(G, 3, false), 9);
        x.twice(0);
        x.twice(0);
        check.same("GRANTED once more at the end", Check.row(x), "REQUEST 2/3 9 0 0; GRANTED 2/3 9 34 0; GATE 2/3 34 3 0; "
            + "TALKER 2/0 34 3 0; TALKER 2/1 34 3 0; TALKER 2/2 34 3 0; TALKER 2/4 34 3 0; TALKER 2/5 34 3 0; "
            + "GRANTED 2/3 9 34 0");
        x.drop(0);
        x.run(200);
        check.same("server", Check.server(x, G), "34 3 0 0 12 -1");
        check.same("relay", Check.relay(x, G), "34 3 33 0");
        check.same("member 3", Check.about(x, G, 3, 2, 7), "3 9 0 34 0 5");
        x.tick();
        x.unit(G, 3, -70);
        x.carry(0);
        check.same("the tick of its unit", Check.server(x, G), "34 3 0 0 12 13");
        check.same("PASSED", Check.row(x), "PASSED 2/0 34 0 -70; PASSED 2/1 34 0 -70; PASSED 2/2 34 0 -70; "
            + "PASSED 2/4 34 0 -70; PASSED 2/5 34 0 -70");
        x.run(200);
        check.same("member 1 listens", Check.about(x, G, 1, 7, 10), "3 34 1 0");
    }

    private static void queuedAndDenied(TalkNet x) {
        check.part("queued and denied");
        String answers = "QUEUED 2/1 7 0 0; QUEUED 2/0 4 1 0; QUEUED 2/5 8 2 0; QUEUED 2/2 5 3 0; DENIED 2/4 6 0 0";
        int[] order = {1, 0, 5, 2, 4};
        for (int member : order) {
            x.press(G, member, false);
        }
        x.run(5);
        check.same("answers", Check.row(x), answers);
        Check.dropAll(x);
        for (int member : order) {
            x.again(G, member);
        }
        x.run(5);
        check.same("the same again", Check.row(x), answers);
        x.run(200);
        check.same("waiting", Check.waiting(x, G), "1 0 5 2");
        check.same("member 5", Check.about(x, G, 5, 2, 6), "2 8 2 33 1");
        check.same("member 4", Check.about(x, G, 4, 2, 6), "0 6 0 26 1");
    }

    private static void revokedAndEnded(TalkNet x) {
        check.part("revoked and ended");
        x.leave(G, 5);
        check.same("member 5 left, with none", Check.about(x, G, 5, 0, 4), "0 3 0 8 2");
        x.member(G, 4, 5);
        check.same("press", x.press(G, 4, false), 7);
        x.carry(0);
        check.same("row", Check.row(x), "QUEUED 2/4 7 0 0; REVOKED 2/3 34 0 0");
        x.run(200);
        check.same("server", Check.server(x, G) + ", " + Check.waiting(x, G), "34 3 4 1 12 13, 4 1 0 2");
        check.same("member 3", Check.about(x, G, 3, 2, 6), "4 9 0 34 1");
        x.tick();
        check.same("in its grace", x.server(G, 1) + " " + x.messages(), "3 0");
        x.tick();
        String talkers = "TALKER 2/0 35 4 0; TALKER 2/1 35 4 0; TALKER 2/2 35 4 0; TALKER 2/3 35 4 0";
        check.same("at 15", Check.row(x), "ENDED 2/3 34 0 0; GRANTED 2/4 7 35 0; GATE 2/4 35 4 0; "
            + talkers + "; " + talkers);
        x.run(200);
        check.same("server", Check.server(x, G) + ", " + Check.waiting(x, G), "35 4 3 0 15 -1, 1 0 2");
        check.same("member 3", Check.about(x, G, 3, 2, 7), "0 9 0 34 1 4");
        check.same("member 4", Check.about(x, G, 4, 2, 7), "3 7 0 35 0 3");
    }

    private static void left(TalkNet x) {
        check.part("the holder leaves");
        check.same("row", Check.sentBy(x, () -> x.leave(G, 4)),
            "GRANTED 2/1 7 36 0; GATE 2/1 36 1 0; TALKER 2/0 36 1 0; TALKER 2/2 36 1 0; TALKER 2/3 36 1 0");
        check.same("server", Check.server(x, G) + ", " + Check.waiting(x, G), "36 1 2 0 15 -1, 0 2");
        x.run(200);
    }

    private static void askedAnew(TalkNet x) {
        check.part("the holder asks anew");
        x.release(G, 1);
        x.drop(0);
        x.tick();
        check.same("press", x.press(G, 1, true), 8);
        x.carry(0);
        check.same("row", Check.row(x), "GRANTED 2/0 4 37 0; GATE 2/0 37 0 0; TALKER 2/1 37 0 0; TALKER 2/2 37 0 0; "
            + "TALKER 2/3 37 0 0; QUEUED 2/1 8 0 0; REVOKED 2/0 37 0 0");
        check.same("server", Check.server(x, G) + ", " + Check.waiting(x, G), "37 0 2 1 16 -1, 1 2");
        x.run(200);
        check.same("member 0", Check.about(x, G, 0, 2, 5), "4 4 1 37");
        check.same("member 1", Check.about(x, G, 1, 2, 7), "2 8 0 36 0 0");
    }

    /** A RELEASE that comes before its REQUEST makes its own number the greatest, and no other. */
    private static void releasedAhead(TalkNet x) {
        check.part("a RELEASE ahead of its REQUEST");
        x.release(G, 2);
        x.drop(0);
        check.same("press", x.press(G, 2, false), 6);
        x.release(G, 2);
        check.same("press", x.press(G, 2, false), 7);
        x.carry(1);
        check.same("2 waits no more", Check.waiting(x, G), "1");
        x.carry(0);
        check.same("its REQUEST is nothing", Check.waiting(x, G) + ", " + Check.row(x), "1, REQUEST 2/2 7 0 0");
        x.carry(0);
        check.same("the next one is heard", Check.waiting(x, G) + ", " + Check.row(x), "1 2, QUEUED 2/2 7 1 0");
        check.same("no other group was touched", Check.server(x, 0) + ", " + Check.server(x, 1) + ", "
            + Check.relay(x, 0) + ", " + Check.relay(x, 1), "0 -1 0 0 -1 -1, 0 -1 0 0 -1 -1, 0 -1 0 0, 0 -1 0 0");
    }

    private static void endedWithAPlace(TalkNet x) {
        check.part("ended, with a place from before");
        x.run(200);
        Check.ticks(x, 2);
        check.same("at 18", Check.row(x), "ENDED 2/0 37 0 0; GRANTED 2/1 8 38 0; GATE 2/1 38 1 0; "
            + "TALKER 2/0 38 1 0; TALKER 2/2 38 1 0; TALKER 2/3 38 1 0");
        x.run(200);
        check.same("member 0", Check.about(x, G, 0, 2, 7), "0 4 1 37 0 1");
    }
}
