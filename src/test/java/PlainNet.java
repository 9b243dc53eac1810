import java.util.ArrayList;
import java.util.BitSet;
import java.util.Comparator;
import java.util.List;
import java.util.TreeMap;

/**
 * The document's Terms once more, written down as literally as can be and in another shape than
 * TalkNet, so that long runs of calls can be compared. It is only called when no exception is due.
 */
final class PlainNet {
    static final class Msg {
        final int kind;
        final int group;
        final int member;
        final int a;
        final int b;
        final int c;

        Msg(int kind, int group, int member, int a, int b, int c) {
            this.kind = kind;
            this.group = group;
            this.member = member;
            this.a = a;
            this.b = b;
            this.c = c;
        }
    }

    /** A request that the server heard, with its order of hearing. */
    static final class Req {
        int member;
        int number;
        boolean emergency;
        int priority;
        int heard;
    }

    static final class Person {
        boolean there;
        int priority;
        int state;
        int request;
        boolean emergency;
        int place;
        int grant;
        int sent;
        int seen;
        int talker = -1;
        int spurt;
        boolean goesOn;
        int next;
        int since;
        TreeMap<Integer, Integer> kept = new TreeMap<>();
        List<Boolean> history = new ArrayList<>();
        int played;
        int gaps;
        int late;
        int sum;
        int greatest;
        boolean denied;
    }

    static final class Team {
        final Person[] people = new Person[6];
        boolean preempts;
        int longest = 50;
        int idle = 20;
        int grace = 5;
        int grants;
        Req holder;
        boolean holdersPreempts;
        int holdersLongest;
        int holdersIdle;
        int holdersGrace;
        int since = -1;
        int revoked = -1;
        int lastUnit = -1;
        List<Req> row = new ArrayList<>();
        int gateGrant;
        int gateMember = -1;
        BitSet gatePassed = new BitSet();
        int passed;
        int stopped;
    }

    final Team[] teams = new Team[3];
    final List<Msg> way = new ArrayList<>();
    int lost;
    int time;
    private int hearings;

    PlainNet() {
        for (int g = 0; g < 3; g++) {
            teams[g] = new Team();
            for (int m = 0; m < 6; m++) {
                teams[g].people[m] = new Person();
            }
        }
    }

    void send(int kind, int group, int member, int a, int b, int c) {
        if (way.size() == 60) {
            lost++;
        } else {
            way.add(new Msg(kind, group, member, a, b, c));
        }
    }

    private void sendOthers(int kind, int group, int but, int a, int b, int c) {
        for (int m = 0; m < 6; m++) {
            if (m != but && teams[group].people[m].there) {
                send(kind, group, m, a, b, c);
            }
        }
    }

    boolean leave(int g, int m) {
        Person p = teams[g].people[m];
        boolean was = p.there;
        if (was) {
            p.there = false;
            p.state = 0;
            p.goesOn = false;
            giveBack(g, m);
        }
        return was;
    }

    int press(int g, int m, boolean emergency) {
        Person p = teams[g].people[m];
        p.request += 1;
        p.emergency = emergency;
        p.state = 1;
        again(g, m);
        return p.request;
    }

    void again(int g, int m) {
        Person p = teams[g].people[m];
        send(1, g, m, p.request, p.emergency ? 1 : 0, 0);
    }

    void release(int g, int m) {
        Person p = teams[g].people[m];
        send(2, g, m, p.request, 0, 0);
        p.state = 0;
    }

    int unit(int g, int m, int value) {
        Person p = teams[g].people[m];
        send(11, g, m, p.grant, p.sent, value);
        p.sent += 1;
        return p.sent - 1;
    }

    int run(int n) {
        int done = 0;
        while (done < n && !way.isEmpty()) {
            comes(way.remove(0));
            done++;
        }
        return done;
    }

    void comes(Msg x) {
        if (x.kind == 1) {
            request(x);
        } else if (x.kind == 2) {
            Person p = teams[x.group].people[x.member];
            if (x.a >= p.greatest) {
                if (x.a > p.greatest) {
                    p.greatest = x.a;
                    p.denied = false;
                }
                giveBack(x.group, x.member);
            }
        } else if (x.kind == 10) {
            Team t = teams[x.group];
            if (x.a > t.gateGrant || x.a == t.gateGrant && x.b == -1) {
                if (x.a > t.gateGrant) {
                    t.gatePassed = new BitSet();
                }
                t.gateGrant = x.a;
                t.gateMember = x.b;
            }
        } else if (x.kind == 11) {
            unitComes(x);
        } else if (teams[x.group].people[x.member].there) {
            memberHears(teams[x.group].people[x.member], x);
        }
    }

    private void memberHears(Person p, Msg x) {
        boolean asks = p.state == 1 || p.state == 2;
        if (x.kind == 3 && asks && x.a == p.request) {
            p.state = 3;
            p.grant = x.b;
            p.sent = 0;
        } else if (x.kind == 4 && asks && x.a == p.request) {
            p.state = 2;
            p.place = x.b;
        } else if (x.kind == 5 && asks && x.a == p.request) {
            p.state = 0;
        } else if (x.kind == 6 && p.state == 3 && p.grant == x.a) {
            p.state = 4;
        } else if (x.kind == 7 && (p.state == 3 || p.state == 4) && p.grant == x.a) {
            p.state = 0;
        } else if (x.kind == 8 && x.a >= p.seen) {
            p.seen = x.a;
            p.talker = x.b;
        } else if (x.kind == 9) {
            listens(p, x);
        }
    }

    private void listens(Person p, Msg x) {
        if (x.a < p.spurt || x.a == p.spurt && !p.goesOn) {
            p.late++;
            return;
        }
        if (x.a > p.spurt) {
            p.spurt = x.a;
            p.goesOn = true;
            p.next = x.b;
            p.since = time;
            p.kept.clear();
            p.history.clear();
        }
        if (x.b < p.next || x.b - p.next >= 16 || p.kept.containsKey(x.b)) {
            p.late++;
        } else {
            p.kept.put(x.b, x.c);
        }
    }

    private void unitComes(Msg x) {
        Team t = teams[x.group];
        if (t.gateMember == -1 || x.a != t.gateGrant || x.member != t.gateMember || x.b > 63 || t.gatePassed.get(x.b)) {
            t.stopped++;
            return;
        }
        t.passed++;
        t.gatePassed.set(x.b);
        sendOthers(9, x.group, x.member, x.a, x.b, x.c);
        if (t.holder != null && t.grants == x.a) {
            t.lastUnit = time;
        }
    }

    private void request(Msg x) {
        Team t = teams[x.group];
        Person p = t.people[x.member];
        if (!p.there || x.a < p.greatest) {
            return;
        }
        if (x.a == p.greatest) {
            if (t.holder != null && t.holder.member == x.member && t.holder.number == x.a) {
                send(3, x.group, x.member, x.a, t.grants, 0);
                return;
            }
            for (int i = 0; i < t.row.size(); i++) {
                if (t.row.get(i).member == x.member) {
                    send(4, x.group, x.member, x.a, i, 0);
                    return;
                }
            }
            if (p.denied) {
                send(5, x.group, x.member, x.a, 0, 0);
            }
            return;
        }
        p.greatest = x.a;
        p.denied = false;
        giveBack(x.group, x.member);
        Req r = new Req();
        r.member = x.member;
        r.number = x.a;
        r.emergency = x.b == 1;
        r.priority = p.priority;
        r.heard = ++hearings;
        if (t.holder == null && t.row.isEmpty()) {
            grant(x.group, r);
        } else if (t.row.size() == 4) {
            p.denied = true;
            send(5, x.group, x.member, x.a, 0, 0);
        } else {
            t.row.add(r);
            t.row.sort(Comparator.comparing((Req q) -> !q.emergency).thenComparing(q -> -q.priority)
                .thenComparing(q -> q.heard));
            send(4, x.group, x.member, x.a, t.row.indexOf(r), 0);
            Req h = t.holder;
            boolean above = r.emergency && !h.emergency || r.priority > h.priority && r.emergency == h.emergency;
            if (t.holdersPreempts && t.revoked < 0 && above) {
                send(6, x.group, h.member, t.grants, 0, 0);
                t.revoked = time;
            }
        }
    }

    private void giveBack(int g, int m) {
        Team t = teams[g];
        t.row.removeIf(r -> r.member == m);
        if (t.holder != null && t.holder.member == m) {
            freed(g);
        }
    }

    private void freed(int g) {
        Team t = teams[g];
        t.holder = null;
        t.since = -1;
        t.revoked = -1;
        t.lastUnit = -1;
        if (t.row.isEmpty()) {
            send(10, g, 0, t.grants, -1, 0);
        } else {
            grant(g, t.row.remove(0));
        }
    }

    private void grant(int g, Req r) {
        Team t = teams[g];
        t.grants++;
        t.holder = r;
        t.holdersPreempts = t.preempts;
        t.holdersLongest = t.longest;
        t.holdersIdle = t.idle;
        t.holdersGrace = t.grace;
        t.since = time;
        send(3, g, r.member, r.number, t.grants, 0);
        send(10, g, r.member, t.grants, r.member, 0);
        sendOthers(8, g, r.member, t.grants, r.member, 0);
    }

    int tick() {
        time++;
        for (int g = 0; g < 3; g++) {
            Team t = teams[g];
            if (t.holder != null) {
                boolean over = t.revoked >= 0 && t.revoked + t.holdersGrace <= time
                    || t.since + t.holdersLongest <= time
                    || Math.max(t.since, t.lastUnit) + t.holdersIdle <= time;
                if (over) {
                    send(7, g, t.holder.member, t.grants, 0, 0);
                    freed(g);
                }
            }
            if (time % 5 == 0 && t.holder != null) {
                sendOthers(8, g, t.holder.member, t.grants, t.holder.member, 0);
            }
            for (Person p : t.people) {
                if (p.there && p.goesOn && p.since + 2 <= time) {
                    plays(p);
                }
            }
        }
        return time;
    }

    private static void plays(Person p) {
        Integer value = p.kept.remove(p.next);
        p.next++;
        p.history.add(value != null);
        p.sum = p.sum * 31 + (value == null ? -1 : value);
        if (value == null) {
            p.gaps++;
        } else {
            p.played++;
        }
        int n = p.history.size();
        if (n >= 4 && !p.history.subList(n - 4, n).contains(true)) {
            p.goesOn = false;
        }
    }

    /** All that the object tells, in the form of Check.all. */
    String all() {
        StringBuilder text = new StringBuilder(row() + " | " + lost);
        for (Team t : teams) {
            text.append(" | ").append(t.grants).append(' ').append(t.holder == null ? -1 : t.holder.member)
                .append(' ').append(t.row.size()).append(' ').append(t.revoked >= 0 ? 1 : 0)
                .append(' ').append(t.since).append(' ').append(t.lastUnit).append(" | ");
            for (int i = 0; i < t.row.size(); i++) {
                text.append(i == 0 ? "" : " ").append(t.row.get(i).member);
            }
            text.append(" | ").append(t.gateGrant).append(' ').append(t.gateMember).append(' ').append(t.passed)
                .append(' ').append(t.stopped);
            for (Person p : t.people) {
                int[] told = {p.there ? 1 : 0, p.priority, p.state, p.request, p.place, p.grant, p.sent, p.talker,
                    p.spurt, p.goesOn ? 1 : 0, p.next, p.played, p.gaps, p.late, p.sum};
                for (int i = 0; i < told.length; i++) {
                    text.append(i == 0 ? " | " : " ").append(told[i]);
                }
            }
        }
        return text.toString();
    }

    private String row() {
        List<String> told = new ArrayList<>();
        for (Msg x : way) {
            told.add(Check.KINDS[x.kind] + " " + x.group + "/" + x.member + " " + x.a + " " + x.b + " " + x.c);
        }
        return String.join("; ", told);
    }
}
