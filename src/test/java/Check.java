import java.util.StringJoiner;

/** Compares answers with what is due, counts those that differ, and writes out what an object tells. */
final class Check {
    static final String[] KINDS = {"?", "REQUEST", "RELEASE", "GRANTED", "QUEUED", "DENIED", "REVOKED",
        "ENDED", "TALKER", "PASSED", "GATE", "UNIT"};

    private int wrong;
    private String part = "";

    void part(String name) {
        part = name;
    }

    void same(String what, Object got, Object due) {
        if (!due.equals(got)) {
            wrong++;
            System.out.println(part + ": " + what + " is " + got + ", due is " + due);
        }
    }

    /** The call throws just this, and the object tells the same as before. */
    void fails(TalkNet x, String what, Class<? extends RuntimeException> due, Runnable call) {
        String before = all(x);
        Object got = "nothing";
        try {
            call.run();
        } catch (RuntimeException e) {
            got = e.getClass();
        }
        same(what + " throws", got, due);
        same("all after " + what, all(x), before);
    }

    boolean hasWrong() {
        return wrong != 0;
    }

    void end() {
        if (hasWrong()) {
            System.out.println(wrong + " answers are not as due");
            System.exit(1);
        }
    }

    /** "KIND group/member a b c" of each message, parted by "; ". */
    static String row(TalkNet x) {
        StringJoiner all = new StringJoiner("; ");
        for (int k = 0; k < x.messages(); k++) {
            all.add(KINDS[x.message(k, 0)] + " " + x.message(k, 1) + "/" + x.message(k, 2)
                + " " + x.message(k, 3) + " " + x.message(k, 4) + " " + x.message(k, 5));
        }
        return all.toString();
    }

    /** The row after a call that found it empty. */
    static String sentBy(TalkNet x, Runnable call) {
        dropAll(x);
        call.run();
        return row(x);
    }

    static void dropAll(TalkNet x) {
        while (x.messages() > 0) {
            x.drop(0);
        }
    }

    static void ticks(TalkNet x, int n) {
        for (int i = 0; i < n; i++) {
            x.tick();
        }
    }

    static String server(TalkNet x, int group) {
        StringJoiner all = new StringJoiner(" ");
        for (int what = 0; what < 6; what++) {
            all.add("" + x.server(group, what));
        }
        return all.toString();
    }

    static String waiting(TalkNet x, int group) {
        StringJoiner all = new StringJoiner(" ");
        for (int place = 0; place < x.server(group, 2); place++) {
            all.add("" + x.waiting(group, place));
        }
        return all.toString();
    }

    static String relay(TalkNet x, int group) {
        StringJoiner all = new StringJoiner(" ");
        for (int what = 0; what < 4; what++) {
            all.add("" + x.relay(group, what));
        }
        return all.toString();
    }

    static String about(TalkNet x, int group, int member, int first, int last) {
        StringJoiner all = new StringJoiner(" ");
        for (int what = first; what <= last; what++) {
            all.add("" + x.about(group, member, what));
        }
        return all.toString();
    }

    static String all(TalkNet x) {
        StringJoiner all = new StringJoiner(" | ");
        all.add(row(x)).add("" + x.lost());
        for (int group = 0; group < 3; group++) {
            all.add(server(x, group)).add(waiting(x, group)).add(relay(x, group));
            for (int member = 0; member < 6; member++) {
                all.add(about(x, group, member, 0, 14));
            }
        }
        return all.toString();
    }

    /** A net with members 0 .. n - 1 of a group, all of priority 3. */
    static TalkNet withMembers(int group, int n) {
        TalkNet x = new TalkNet();
        for (int member = 0; member < n; member++) {
            x.member(group, member, 3);
        }
        return x;
    }

    /** Member 0 of n has grant 1, nothing is on its way. */
    static TalkNet withTalker(int group, int n) {
        TalkNet x = withMembers(group, n);
        x.press(group, 0, false);
        x.run(200);
        return x;
    }
}
