/** Promises 1 to 6 and 30: time, boxes, pulls, cuts, the tape, look. */
public final class LoopsTest {
    private static final Check c = new Check();

    public static void main(String[] args) {
        newObject();
        ticks();
        box();
        boxLimits();
        plainRound();
        threeDigits();
        waiting();
        waitingInOrder();
        waitingBehindPlain();
        cutWires();
        cutsAndNewBoxes();
        dumbBoxes();
        tapeOfFiveHundred();
        lookAndItsThrows();
        c.end();
    }

    private static void newObject() {
        AlarmBoxes x = new AlarmBoxes();
        for (int what = 0; what <= 12; what++) {
            c.due("1 count(" + what + ")", x.count(what), 0);
        }
        c.due("1 box 0", Check.look(x, 0, 0), Check.THROWS);
        c.due("1 company in no house", x.company(0, 0), -1);
        c.due("1 alarm of no box", x.alarm(0), -1);
        c.due("1 NONE", AlarmBoxes.NONE, -1);
    }

    private static void ticks() {
        AlarmBoxes x = new AlarmBoxes();
        c.due("2 ticks(0)", x.ticks(0), 0);
        c.due("2 ticks(-1)", x.ticks(-1), -1);
        c.due("2 ticks(5001)", x.ticks(5001), -1);
        c.due("2 ticks(min)", x.ticks(Integer.MIN_VALUE), -1);
        c.due("2 ticks(max)", x.ticks(Integer.MAX_VALUE), -1);
        for (int i = 1; i <= 199; i++) {
            c.due("2 ticks(5000)", x.ticks(5000), 5000 * i);
        }
        c.due("2 ticks(5000) beyond the last", x.ticks(5000), -1);
        c.due("2 now stays", x.count(0), 995000);
        c.due("2 ticks(4999)", x.ticks(4999), 999999);
        c.due("2 ticks(1) at the end", x.ticks(1), -1);
        c.due("2 ticks(0) at the end", x.ticks(0), 999999);
        c.due("2 now at the end", x.count(0), 999999);
    }

    private static void box() {
        AlarmBoxes x = new AlarmBoxes();
        c.due("3 loop -1", x.box(-1, 11, 0, 0, 0, 0), -1);
        c.due("3 loop 4", x.box(4, 11, 0, 0, 0, 0), -1);
        int[] others = {0, 1, 5, 10, 16, 56, 60, 61, 101, 110, 511 + 5, 551 + 5, 606, 611, 1111, -11, 15 + 1, 20, 105,
            150, 160, Integer.MIN_VALUE, Integer.MAX_VALUE};
        for (int n : others) {
            c.due("3 number " + n, x.box(0, n, 0, 0, 0, 0), -1);
        }
        c.due("3 kind -1", x.box(0, 11, -1, 0, 0, 0), -1);
        c.due("3 kind 2", x.box(0, 11, 2, 0, 0, 0), -1);
        c.due("3 x -1", x.box(0, 11, 0, -1, 0, 0), -1);
        c.due("3 x 100", x.box(0, 11, 0, 100, 0, 0), -1);
        c.due("3 y -1", x.box(0, 11, 0, 0, -1, 0), -1);
        c.due("3 y 100", x.box(0, 11, 0, 0, 100, 0), -1);
        c.due("3 ward -1", x.box(0, 11, 0, 0, 0, -1), -1);
        c.due("3 ward 8", x.box(0, 11, 0, 0, 0, 8), -1);
        c.due("3 none stands", x.count(1), 0);
        c.due("3 the first", x.box(3, 11, 0, 99, 0, 7), 0);
        c.due("3 the same number", x.box(3, 11, 1, 99, 0, 7), -1);
        c.due("3 the number in another loop", x.box(2, 11, 1, 0, 99, 0), 1);
        c.due("3 the greatest number", x.box(3, 555, 1, 0, 99, 0), 2);
        c.due("3 the least of three", x.box(3, 111, 1, 0, 99, 0), 3);
        c.due("3 the greatest of two", x.box(3, 55, 1, 0, 99, 0), 4);
        c.due("3 boxes", x.count(1), 5);
    }

    private static void boxLimits() {
        AlarmBoxes x = new AlarmBoxes();
        for (int i = 0; i < 12; i++) {
            c.due("3 box " + i, x.box(0, 111 + i % 5 + 10 * (i / 5), 0, 0, 0, 0), i);
        }
        c.due("3 the 13th of a loop", x.box(0, 55, 0, 0, 0, 0), -1);
        for (int i = 12; i < 24; i++) {
            c.due("3 box " + i, x.box(1, 111 + i % 5 + 10 * (i / 5 % 5), 0, 0, 0, 0), i);
        }
        for (int i = 24; i < 32; i++) {
            c.due("3 box " + i, x.box(2, 111 + i % 5 + 10 * (i / 5 % 5), 0, 0, 0, 0), i);
        }
        c.due("3 the 33rd", x.box(2, 55, 0, 0, 0, 0), -1);
        c.due("3 the 33rd in another loop", x.box(3, 55, 0, 0, 0, 0), -1);
        c.due("3 32 stand", x.count(1), 32);
        c.due("30 the last one's place in its loop", Check.look(x, 31, 7), 7);
    }

    /** 11: knocks at 0, 4; 11, 15; 22, 26 behind its begin. */
    private static void plainRound() {
        AlarmBoxes x = new AlarmBoxes();
        c.due("4 pull(0) of none", x.pull(0), false);
        c.due("4 pull(-1)", x.pull(-1), false);
        x.box(1, 11, 0, 0, 0, 0);
        x.ticks(10);
        c.due("4 pull", x.pull(0), true);
        c.due("4 pull again", x.pull(0), false);
        c.due("30 goes on at once", Check.look(x, 0, 4), 2);
        c.due("30 begin", Check.look(x, 0, 6), 11);
        c.due("31 goes on at once", x.count(10), 1);
        c.due("2 ticks", x.ticks(26), 36);
        c.due("4 not yet behind its last knock", x.pull(0), false);
        x.ticks(1);
        c.due("30 at its last knock", Check.look(x, 0, 4), 2);
        c.due("4 pull at its last knock", x.pull(0), false);
        x.ticks(1);
        c.due("30 behind its last knock", Check.look(x, 0, 4), 0);
        c.due("31 none goes on", x.count(10), 0);
        int[] knocks = {11, 15, 22, 26, 33, 37};
        dueKnocks(x, 1, knocks, 38);
        c.due("6 the other loop", x.knocked(0, 11), 0);
        c.due("6 tick 0", x.knocked(1, 0), -1);
        c.due("6 tick -1", x.knocked(1, -1), -1);
        c.due("6 tick ahead", x.knocked(1, 39), -1);
        c.due("6 loop 4", x.knocked(4, 11), -1);
        c.due("6 loop -1", x.knocked(-1, 11), -1);
        c.due("4 pull once more", x.pull(0), true);
        c.due("30 the new begin", Check.look(x, 0, 6), 39);
    }

    /** 312: 0 2 4, 8, 12 14; a round of 15 ticks, the next one 21 ticks behind. */
    private static void threeDigits() {
        AlarmBoxes x = new AlarmBoxes();
        x.box(0, 312, 0, 0, 0, 0);
        x.pull(0);
        x.ticks(100);
        int[] knocks = {1, 3, 5, 9, 13, 15, 22, 24, 26, 30, 34, 36, 43, 45, 47, 51, 55, 57};
        dueKnocks(x, 0, knocks, 100);
        c.due("30 knocks in a round", Check.look(x, 0, 8), 6);
        x.box(0, 555, 0, 0, 0, 0);
        x.pull(1);
        x.ticks(111);
        c.due("30 555 at its last knock", Check.look(x, 1, 4), 2);
        c.due("6 the last knock of 555", x.knocked(0, 211), 1);
        c.due("6 the first knock of its third round", x.knocked(0, 179), 1);
        c.due("6 quiet ahead of it", x.knocked(0, 178), 0);
        x.ticks(1);
        c.due("30 555 is quiet", Check.look(x, 1, 4), 0);
    }

    private static void waiting() {
        AlarmBoxes x = new AlarmBoxes();
        x.box(0, 11, 1, 0, 0, 0);
        c.due("4 a waiting one", x.pull(0), true);
        c.due("30 it waits", Check.look(x, 0, 4), 1);
        c.due("30 it never began", Check.look(x, 0, 6), -1);
        c.due("4 it waits yet", x.pull(0), false);
        c.due("31 one waits", x.count(11), 1);
        c.due("31 none goes on", x.count(10), 0);
        x.ticks(0);
        c.due("30 it waits still", Check.look(x, 0, 4), 1);
        x.ticks(1);
        c.due("30 ticks up to 0 were quiet", Check.look(x, 0, 6), 1);
        x.ticks(26);
        c.due("30 its last knock", Check.look(x, 0, 4), 2);
        x.ticks(1);
        c.due("4 pulled anew", x.pull(0), true);
        c.due("30 its begin is the former one", Check.look(x, 0, 6), 1);
        x.ticks(6);
        c.due("30 six quiet ticks are not enough", Check.look(x, 0, 4), 1);
        x.ticks(1);
        c.due("30 it begins behind seven", Check.look(x, 0, 6), 35);
    }

    private static void waitingInOrder() {
        AlarmBoxes x = new AlarmBoxes();
        x.box(2, 11, 0, 0, 0, 0);
        x.box(2, 12, 1, 0, 0, 0);
        x.box(2, 13, 1, 0, 0, 0);
        x.box(3, 11, 1, 0, 0, 0);
        x.pull(2);
        x.pull(1);
        x.pull(3);
        x.ticks(1);
        c.due("4 the first along the loop begins", Check.look(x, 1, 6), 1);
        c.due("4 the other one waits", Check.look(x, 2, 4), 1);
        c.due("4 the other loop's begins, too", Check.look(x, 3, 6), 1);
        x.ticks(32);
        c.due("4 12 goes on until 33", Check.look(x, 1, 4), 2);
        x.ticks(7);
        c.due("4 13 waits", Check.look(x, 2, 4), 1);
        x.ticks(1);
        c.due("4 13 begins", Check.look(x, 2, 6), 41);
    }

    private static void waitingBehindPlain() {
        AlarmBoxes x = new AlarmBoxes();
        x.box(0, 11, 1, 0, 0, 0);
        x.box(0, 12, 0, 0, 0, 0);
        x.pull(0);
        x.pull(1);
        x.ticks(1);
        c.due("4 the plain one begins", Check.look(x, 1, 6), 1);
        c.due("4 the waiting one does not", Check.look(x, 0, 4), 1);
        x.ticks(5000);
        c.due("4 it began within the same call", Check.look(x, 0, 6), 41);
        c.due("6 its knock", x.knocked(0, 45), 1);
    }

    private static void cutWires() {
        AlarmBoxes x = new AlarmBoxes();
        c.due("5 wire 0 of no boxes", x.cut(0, 0, true), true);
        c.due("5 wire 1 of no boxes", x.cut(0, 1, true), false);
        c.due("5 wire -1", x.cut(0, -1, true), false);
        c.due("5 loop 4", x.cut(4, 0, true), false);
        c.due("5 loop -1", x.cut(-1, 0, true), false);
        c.due("31 one is cut", x.count(12), 1);
        c.due("5 cut again", x.cut(0, 0, true), true);
        c.due("31 still one", x.count(12), 1);
        c.due("5 whole", x.cut(0, 0, false), true);
        c.due("5 whole again", x.cut(0, 0, false), true);
        c.due("31 none", x.count(12), 0);
        for (int i = 0; i < 12; i++) {
            x.box(3, 111 + i % 5 + 10 * (i / 5), 0, 0, 0, 0);
        }
        c.due("5 wire 12", x.cut(3, 12, true), true);
        c.due("5 wire 13", x.cut(3, 13, true), false);
        c.due("5 wire max", x.cut(3, Integer.MAX_VALUE, true), false);
        c.due("5 wire 0", x.cut(3, 0, true), true);
        for (int i = 0; i < 12; i++) {
            c.due("5 dumb " + i, Check.look(x, i, 5), 1);
        }
        x.cut(3, 5, true);
        x.cut(3, 0, false);
        for (int i = 0; i < 12; i++) {
            c.due("5 dumb behind wire 5 " + i, Check.look(x, i, 5), i >= 5 ? 1 : 0);
        }
    }

    private static void cutsAndNewBoxes() {
        AlarmBoxes x = new AlarmBoxes();
        x.box(0, 11, 0, 0, 0, 0);
        x.cut(0, 1, true);
        c.due("5 one cut makes none dumb", Check.look(x, 0, 5), 0);
        x.box(0, 12, 0, 0, 0, 0);
        c.due("5 the new one is behind the cut", Check.look(x, 1, 5), 0);
        c.due("5 the wire behind it is whole", x.count(12), 1);
        x.cut(0, 2, true);
        c.due("5 now it lies between", Check.look(x, 1, 5), 1);
        c.due("5 the first one does not", Check.look(x, 0, 5), 0);
    }

    /** A dumb box goes on unheard: the loop is quiet, yet none that waits begins until its last knock is by. */
    private static void dumbBoxes() {
        AlarmBoxes x = new AlarmBoxes();
        x.box(0, 11, 0, 0, 0, 0);
        x.box(0, 12, 1, 0, 0, 0);
        x.cut(0, 0, true);
        x.cut(0, 1, true);
        x.pull(0);
        x.pull(1);
        x.ticks(1);
        c.due("6 not heard", x.knocked(0, 1), 0);
        c.due("30 it goes on all the same", Check.look(x, 0, 4), 2);
        x.ticks(26);
        c.due("4 the other one waits at its last knock", Check.look(x, 1, 4), 1);
        x.ticks(1);
        c.due("4 and begins at the tick behind", Check.look(x, 1, 6), 28);
        c.due("6 this one is heard", x.knocked(0, 28), 1);
        x.cut(0, 2, true);
        x.ticks(4);
        c.due("6 dumb in its second knock", x.knocked(0, 32), 0);
        x.cut(0, 2, false);
        x.ticks(2);
        c.due("6 heard in its third", x.knocked(0, 34), 1);
    }

    /** 55 knocks 30 times, at 0 2 4 6 8, 12 14 16 18 20, and so on; the 17th run drives the first ten knocks off the tape. */
    private static void tapeOfFiveHundred() {
        AlarmBoxes x = new AlarmBoxes();
        x.box(0, 55, 0, 0, 0, 0);
        for (int i = 0; i < 17; i++) {
            c.due("4 pull " + i, x.pull(0), true);
            x.ticks(200);
            c.due("6 the 11th knock of the first run", x.knocked(0, 28), 1);
            c.due("6 the tenth one", x.knocked(0, 21), i < 16 ? 1 : 0);
        }
        int held = 0;
        for (int run = 0; run < 17; run++) {
            for (int round = 0; round < 3; round++) {
                for (int k = 0; k < 5; k++) {
                    held += x.knocked(0, 200 * run + 27 * round + 1 + 2 * k);
                }
            }
        }
        c.due("6 half of 490 and the odd ones", held, 250);
        c.due("6 the latest", x.knocked(0, 3200 + 75), 1);
        c.due("7 what is off the tape is not read", x.reading(0, 1, 21), 0);
        c.due("7 nor explained", x.reading(0, 1, 100), -1);
    }

    private static void lookAndItsThrows() {
        AlarmBoxes x = new AlarmBoxes();
        x.box(1, 21, 0, 3, 4, 5);
        x.box(2, 345, 1, 3, 4, 6);
        int[] due = {2, 345, 1, 6, 0, 0, -1, 0, 12};
        for (int what = 0; what < due.length; what++) {
            c.due("30 look(1, " + what + ")", Check.look(x, 1, what), due[what]);
        }
        c.due("30 look(0, 3)", Check.look(x, 0, 3), 5);
        c.due("30 what -1", Check.look(x, 0, -1), Check.THROWS);
        c.due("30 what 9", Check.look(x, 0, 9), Check.THROWS);
        c.due("30 box 2", Check.look(x, 2, 0), Check.THROWS);
        c.due("30 box -1", Check.look(x, -1, 0), Check.THROWS);
        c.due("30 box max", Check.look(x, Integer.MAX_VALUE, 0), Check.THROWS);
    }

    private static void dueKnocks(AlarmBoxes x, int loop, int[] knocks, int to) {
        int next = 0;
        for (int tick = 1; tick <= to; tick++) {
            boolean knocks1 = next < knocks.length && knocks[next] == tick;
            next += knocks1 ? 1 : 0;
            c.due("6 knocked(" + loop + ", " + tick + ")", x.knocked(loop, tick), knocks1 ? 1 : 0);
        }
    }
}
