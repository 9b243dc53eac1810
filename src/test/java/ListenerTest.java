import java.util.NoSuchElementException;

/** Promise 19, and what a listener does: spurts, what is kept, late, played, and gaps. */
public final class ListenerTest {
    private static final Check check = new Check();

    public static void main(String[] args) {
        about();
        playsInOrder();
        beginsWithAnyNumber();
        lateOnes();
        window();
        windowBehindAGap();
        firstAndLastMemberListen();
        gapsEndIt();
        gapsThatDoNotEndIt();
        newSpurt();
        sumWrapsAround();
        check.end();
    }

    private static void about() {
        check.part("promise 19");
        TalkNet x = Check.withMembers(2, 2);
        x.member(2, 1, 6);
        x.press(2, 0, false);
        x.run(200);
        x.press(2, 1, false);
        x.run(200);
        x.unit(2, 0, 40);
        x.run(200);
        check.same("the talker", Check.about(x, 2, 0, 0, 14), "1 3 3 1 0 1 1 -1 0 0 0 0 0 0 0");
        check.same("the listener", Check.about(x, 2, 1, 0, 14), "1 6 2 1 0 0 0 0 1 1 0 0 0 0 0");
        check.fails(x, "group 3", NoSuchElementException.class, () -> x.about(3, 0, 0));
        check.fails(x, "group -1", NoSuchElementException.class, () -> x.about(-1, 0, 0));
        check.fails(x, "member 6", NoSuchElementException.class, () -> x.about(0, 6, 0));
        check.fails(x, "member -1", NoSuchElementException.class, () -> x.about(0, -1, 15));
        check.fails(x, "what 15", IndexOutOfBoundsException.class, () -> x.about(0, 0, 15));
        check.fails(x, "what -1", IndexOutOfBoundsException.class, () -> x.about(0, 0, -1));
    }

    /** Two members; the talker's units with these numbers have come to the listener, in this order. */
    private static TalkNet withUnits(int... numbers) {
        TalkNet x = Check.withTalker(0, 2);
        bring(x, numbers);
        return x;
    }

    /** Each unit's value is its number and 100. */
    private static void bring(TalkNet x, int... numbers) {
        for (int number : numbers) {
            while (x.about(0, 0, 6) <= number) {
                x.unit(0, 0, 100 + x.about(0, 0, 6));
            }
            carryUnit(x, number);
            x.carry(x.messages() - 1);
        }
    }

    private static void carryUnit(TalkNet x, int number) {
        for (int k = 0; k < x.messages(); k++) {
            if (x.message(k, 0) == 11 && x.message(k, 4) == number) {
                x.carry(k);
                return;
            }
        }
    }

    /** The spurt's grant, whether it goes on, what is next, played, gaps, late, sum. */
    private static String listener(TalkNet x) {
        return Check.about(x, 0, 1, 8, 14);
    }

    private static int sum(int... values) {
        int sum = 0;
        for (int value : values) {
            sum = sum * 31 + value;
        }
        return sum;
    }

    private static void playsInOrder() {
        check.part("plays in order");
        TalkNet x = withUnits(0, 2, 1);
        check.same("kept", listener(x), "1 1 0 0 0 0 0");
        x.tick();
        check.same("not in the first tick", listener(x), "1 1 0 0 0 0 0");
        x.tick();
        check.same("since 2 ticks", listener(x), "1 1 1 1 0 0 100");
        Check.ticks(x, 2);
        check.same("all", listener(x), "1 1 3 3 0 0 " + sum(100, 101, 102));
        check.same("the talker hears nothing", Check.about(x, 0, 0, 8, 14), "0 0 0 0 0 0 0");
    }

    private static void beginsWithAnyNumber() {
        check.part("begins with any number");
        TalkNet x = withUnits(5);
        check.same("5 is next", listener(x), "1 1 5 0 0 0 0");
        bring(x, 4);
        check.same("4 is late", listener(x), "1 1 5 0 0 1 0");
        Check.ticks(x, 2);
        check.same("5 is played", listener(x), "1 1 6 1 0 1 105");
    }

    private static void lateOnes() {
        check.part("late ones");
        TalkNet x = Check.withTalker(0, 2);
        x.unit(0, 0, 1);
        x.carry(0);
        x.twice(0);
        x.twice(0);
        check.same("kept already", listener(x), "1 1 0 0 0 1 0");
        Check.ticks(x, 2);
        x.carry(0);
        check.same("below what is next", listener(x), "1 1 1 1 0 2 1");
    }

    private static void window() {
        check.part("16 above what is next");
        TalkNet x = withUnits(3, 18);
        check.same("15 above", listener(x), "1 1 3 0 0 0 0");
        bring(x, 19);
        check.same("16 above", listener(x), "1 1 3 0 0 1 0");
        bring(x, 4, 7, 10, 13, 16);
        Check.ticks(x, 1 + 16);
        check.same("all are played", listener(x), "1 1 19 7 9 1 " + sum(103, 104, -1, -1, 107, -1, -1, 110,
            -1, -1, 113, -1, -1, 116, -1, 118));
        bring(x, 20, 34);
        Check.ticks(x, 3);
        check.same("the window goes on", listener(x), "1 1 22 8 11 1 " + sum(103, 104, -1, -1, 107, -1, -1, 110,
            -1, -1, 113, -1, -1, 116, -1, 118, -1, 120, -1));
    }

    private static void windowBehindAGap() {
        check.part("16 above what is next, which is not kept");
        TalkNet x = withUnits(0);
        Check.ticks(x, 2);
        bring(x, 17);
        check.same("16 above", listener(x), "1 1 1 1 0 1 100");
        bring(x, 16);
        check.same("15 above", listener(x), "1 1 1 1 0 1 100");
    }

    private static void firstAndLastMemberListen() {
        check.part("members 0 and 5 listen");
        TalkNet x = Check.withMembers(1, 6);
        x.press(1, 2, false);
        x.run(200);
        x.unit(1, 2, 9);
        x.run(200);
        Check.ticks(x, 2);
        for (int member = 0; member < 6; member++) {
            check.same("member " + member, Check.about(x, 1, member, 8, 14),
                member == 2 ? "0 0 0 0 0 0 0" : "1 1 1 1 0 0 9");
        }
    }

    private static void gapsEndIt() {
        check.part("four gaps");
        TalkNet x = withUnits(0);
        Check.ticks(x, 5);
        check.same("three gaps", listener(x), "1 1 4 1 3 0 " + sum(100, -1, -1, -1));
        x.tick();
        check.same("four", listener(x), "1 0 5 1 4 0 " + sum(100, -1, -1, -1, -1));
        Check.ticks(x, 3);
        check.same("no more", listener(x), "1 0 5 1 4 0 " + sum(100, -1, -1, -1, -1));
        Check.dropAll(x);
        bring(x, 5);
        check.same("a unit of a spurt that is over is late", listener(x), "1 0 5 1 4 1 " + sum(100, -1, -1, -1, -1));
    }

    private static void gapsThatDoNotEndIt() {
        check.part("gaps that are not one behind the other");
        TalkNet x = withUnits(0, 4, 8);
        Check.ticks(x, 1 + 12);
        check.same("nine gaps", listener(x), "1 1 12 3 9 0 "
            + sum(100, -1, -1, -1, 104, -1, -1, -1, 108, -1, -1, -1));
        x.tick();
        check.same("ten", x.about(0, 1, 9), 0);
    }

    private static void newSpurt() {
        check.part("a new spurt");
        TalkNet x = withUnits(0, 1, 6);
        x.unit(0, 0, 70);
        carryUnit(x, 7);
        Check.ticks(x, 6);
        check.same("three gaps", listener(x), "1 1 5 2 3 0 " + sum(100, 101, -1, -1, -1));
        x.release(0, 0);
        x.press(0, 0, false);
        for (int i = 0; x.relay(0, 0) < 2 || x.about(0, 0, 2) != 3; i++) {
            check.same("granted anew soon", i < 20, true);
            x.carry(x.messages() - 1);
        }
        x.unit(0, 0, 50);
        x.unit(0, 0, 51);
        x.unit(0, 0, 52);
        x.carry(x.messages() - 1);
        x.carry(x.messages() - 1);
        int sum = sum(100, 101, -1, -1, -1);
        check.same("of the greater grant, nothing is kept", listener(x), "2 1 2 2 3 0 " + sum);
        x.tick();
        check.same("waits 2 ticks", listener(x), "2 1 2 2 3 0 " + sum);
        x.tick();
        check.same("plays", listener(x), "2 1 3 3 3 0 " + (sum * 31 + 52));
        for (int k = 0; k < x.messages(); k++) {
            if (x.message(k, 0) == 9 && x.message(k, 3) == 1) {
                x.carry(k);
                break;
            }
        }
        check.same("one of a smaller grant is late", listener(x), "2 1 3 3 3 1 " + (sum * 31 + 52));
        Check.ticks(x, 3);
        check.same("gaps: 6 of the old spurt is not there", Check.about(x, 0, 1, 9, 12), "1 6 3 6");
        x.tick();
        check.same("over", Check.about(x, 0, 1, 9, 12), "0 7 3 7");
    }

    private static void sumWrapsAround() {
        check.part("the sum wraps around");
        TalkNet x = Check.withTalker(0, 2);
        x.unit(0, 0, Integer.MAX_VALUE);
        x.unit(0, 0, Integer.MIN_VALUE);
        x.run(200);
        Check.ticks(x, 4);
        check.same("sum", x.about(0, 1, 14), sum(Integer.MAX_VALUE, Integer.MIN_VALUE, -1));
    }
}
