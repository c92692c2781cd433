/** Promises 26 to 29 and 31: later words, what is known on a day, rates, counts. */
public final class BookTest {
    private static final Check c = new Check();
    private static final int DAY = 86400;

    public static void main(String[] args) {
        words();
        knownByDay();
        wordsOfOneDay();
        rates();
        ratesByDay();
        worst();
        twoHundredWords();
        lastDay();
        counts();
        c.end();
    }

    private static void words() {
        AlarmBoxes x = new AlarmBoxes();
        x.box(0, 11, 0, 0, 0, 0);
        c.due("26 none", x.word(0, true), false);
        x.alarm(0);
        c.due("26 not over", x.word(0, true), false);
        x.over(0, true);
        c.due("26 over", x.word(0, true), true);
        c.due("26 -1", x.word(-1, true), false);
        c.due("26 1", x.word(1, true), false);
        c.due("31 one later word", x.count(7), 1);
    }

    private static void knownByDay() {
        AlarmBoxes x = new AlarmBoxes();
        x.box(0, 11, 0, 0, 0, 0);
        Check.pass(x, DAY - 1);
        x.alarm(0);
        x.ticks(1);
        x.alarm(0);
        c.due("27 raised yesterday", x.known(0, 0), 2);
        c.due("27 raised today, as of yesterday", x.known(1, 0), -1);
        c.due("27 raised today", x.known(1, 1), 2);
        c.due("27 day 2 is ahead", x.known(0, 2), -1);
        c.due("27 day -1", x.known(0, -1), -1);
        c.due("27 alarm 2", x.known(2, 0), -1);
        c.due("27 alarm -1", x.known(-1, 0), -1);
        x.over(0, true);
        c.due("27 no word on day 0", x.known(0, 0), 2);
        c.due("27 true on day 1", x.known(0, 1), 1);
        Check.pass(x, DAY);
        x.word(0, false);
        c.due("27 no word on day 0", x.known(0, 0), 2);
        c.due("27 true on day 1 still", x.known(0, 1), 1);
        c.due("27 false from day 2 on", x.known(0, 2), 0);
        Check.pass(x, DAY);
        c.due("27 false on day 3", x.known(0, 3), 0);
        x.over(1, false);
        c.due("27 of the other, day 2", x.known(1, 2), 2);
        c.due("27 of the other, day 3", x.known(1, 3), 0);
    }

    private static void wordsOfOneDay() {
        AlarmBoxes x = new AlarmBoxes();
        x.box(0, 11, 0, 0, 0, 0);
        x.alarm(0);
        x.over(0, false);
        x.word(0, true);
        c.due("27 the latest", x.known(0, 0), 1);
        x.word(0, true);
        x.word(0, false);
        c.due("27 the latest", x.known(0, 0), 0);
        c.due("31 three", x.count(7), 3);
    }

    private static void rates() {
        AlarmBoxes x = new AlarmBoxes();
        c.due("28 no box", x.rate(0, 0), -1);
        x.box(0, 11, 0, 0, 0, 0);
        x.box(0, 12, 0, 0, 0, 0);
        c.due("28 no alarm", x.rate(0, 0), 500);
        c.due("28 day 1", x.rate(0, 1), -1);
        c.due("28 day -1", x.rate(0, -1), -1);
        c.due("28 box -1", x.rate(-1, 0), -1);
        c.due("28 box 2", x.rate(2, 0), -1);
        x.alarm(0);
        c.due("28 no word", x.rate(0, 0), 500);
        x.over(0, false);
        c.due("28 2 of 3", x.rate(0, 0), 666);
        x.alarm(0);
        x.over(1, true);
        c.due("28 2 of 4", x.rate(0, 0), 500);
        x.alarm(0);
        x.over(2, true);
        c.due("28 2 of 5", x.rate(0, 0), 400);
        x.alarm(0);
        x.over(3, true);
        x.alarm(0);
        x.over(4, true);
        c.due("28 2 of 7, cut", x.rate(0, 0), 285);
        c.due("28 the other box", x.rate(1, 0), 500);
    }

    private static void ratesByDay() {
        AlarmBoxes x = new AlarmBoxes();
        x.box(0, 11, 0, 0, 0, 0);
        x.alarm(0);
        Check.pass(x, DAY);
        x.over(0, true);
        Check.pass(x, DAY);
        x.word(0, false);
        x.alarm(0);
        x.over(1, false);
        c.due("28 day 0", x.rate(0, 0), 500);
        c.due("28 day 1", x.rate(0, 1), 333);
        c.due("28 day 2", x.rate(0, 2), 750);
    }

    private static void worst() {
        AlarmBoxes x = new AlarmBoxes();
        c.due("29 no boxes", x.worst(0), -1);
        c.due("29 ward -1", x.worst(-1), -1);
        c.due("29 ward 8", x.worst(8), -1);
        x.box(0, 11, 0, 0, 0, 3);
        x.box(0, 12, 0, 0, 0, 4);
        x.box(1, 13, 0, 0, 0, 4);
        x.box(0, 14, 0, 0, 0, 4);
        c.due("29 of equal ones the first", x.worst(4), 1);
        c.due("29 alone", x.worst(3), 0);
        c.due("29 a ward of none", x.worst(5), -1);
        x.alarm(1);
        x.over(0, true);
        c.due("29 less bad", x.worst(4), 2);
        x.alarm(3);
        x.over(1, false);
        c.due("29 the worst", x.worst(4), 3);
        x.alarm(0);
        x.over(2, false);
        c.due("29 of another ward it is not", x.worst(4), 3);
        Check.pass(x, DAY);
        x.word(1, true);
        c.due("29 as known now", x.worst(4), 2);
    }

    private static void twoHundredWords() {
        AlarmBoxes x = new AlarmBoxes();
        x.box(0, 11, 0, 0, 0, 0);
        x.alarm(0);
        x.over(0, false);
        for (int i = 0; i < 200; i++) {
            c.due("26 word " + i, x.word(0, i % 2 == 0), true);
        }
        c.due("27 by the 200th", x.known(0, 0), 0);
        c.due("26 the 201st", x.word(0, true), false);
        c.due("27 it changes nothing", x.known(0, 0), 0);
        c.due("31 200", x.count(7), 200);
        x.alarm(0);
        c.due("19 over needs no room among them", x.over(1, true), true);
        c.due("27 it is told", x.known(1, 0), 1);
    }

    private static void lastDay() {
        AlarmBoxes x = new AlarmBoxes();
        x.box(0, 11, 0, 0, 0, 0);
        Check.pass(x, 999999);
        x.alarm(0);
        x.over(0, true);
        c.due("27 day 11", x.known(0, 11), 1);
        c.due("27 day 12", x.known(0, 12), -1);
        c.due("27 day 10", x.known(0, 10), -1);
        c.due("28 day 10", x.rate(0, 10), 500);
        c.due("28 day 11", x.rate(0, 11), 333);
    }

    private static void counts() {
        AlarmBoxes x = new AlarmBoxes();
        x.house(0, 0);
        x.house(0, 0);
        x.company(0, 0);
        x.company(1, 0);
        x.company(1, 1);
        x.box(0, 11, 0, 0, 0, 0);
        x.box(0, 12, 1, 0, 0, 0);
        x.box(0, 13, 1, 0, 0, 0);
        x.box(1, 13, 0, 0, 0, 0);
        Check.cards(x, "send 1 engines 1 ladders when 1; send 1 engines 0 ladders when 1;");
        x.ticks(9);
        for (int i = 0; i < 4; i++) {
            x.pull(i);
        }
        x.cut(0, 0, true);
        x.cut(0, 2, true);
        x.cut(3, 0, true);
        x.alarm(0);
        x.alarm(0);
        x.alarm(0);
        x.over(2, true);
        x.word(2, true);
        x.word(2, true);
        Check.feed(x, "send");
        int[] due = {9, 4, 2, 3, 3, 3, 2, 2, 2, 4, 2, 2, 3};
        for (int what = 0; what < due.length; what++) {
            c.due("31 count(" + what + ")", x.count(what), due[what]);
        }
        c.due("31 count(-1)", x.count(-1), -1);
        c.due("31 count(13)", x.count(13), -1);
    }
}
