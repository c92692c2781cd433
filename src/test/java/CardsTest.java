/** Promises 14 and 15: the tape of letters, the language of the cards, its faults. */
public final class CardsTest {
    private static final Check c = new Check();
    private static final String HEAD = "send 1 engines 0 ladders when ";

    public static void main(String[] args) {
        feed();
        feedLimit();
        emptyTape();
        tokens();
        noTokens();
        misplaced();
        numbersNotAsTold();
        depth();
        lines();
        oldCardsStay();
        values();
        facts();
        firstLineCounts();
        c.end();
    }

    private static void feed() {
        AlarmBoxes x = new AlarmBoxes();
        c.due("14 nothing", x.feed(0, 0, 0), 0);
        c.due("14 the highest byte first", x.feed(0x73656E6400000000L, 0L, 0x2031000000000020L), 7);
        c.due("14 -1: no sign", x.feed(-1L, -1L, -1L), 7);
        c.due("14 31 and 127 are none", x.feed(0x1F7F090D0B80A0FFL, 0, 0), 7);
        c.due("14 10, 32, 126 are", x.feed(0x0A207E0000000000L, 0, 0), 10);
        c.due("31 signs", x.count(9), 10);
        c.due("15 send, 1, ~", x.cards(), 1 + 16 * 9);
        AlarmBoxes y = new AlarmBoxes();
        y.feed(Check.bytes("send 1 e", 0), Check.bytes("ngines 2", 0), Check.bytes(" ladders", 0));
        y.feed(Check.bytes(" when 1;", 0), 0, 0);
        c.due("14 a, b, c in order", y.cards(), 0);
    }

    private static void feedLimit() {
        AlarmBoxes x = new AlarmBoxes();
        long ones = Check.bytes("11111111", 0);
        for (int i = 1; i <= 41; i++) {
            c.due("14 feed", x.feed(ones, ones, ones), 24 * i);
        }
        c.due("14 beyond 1000", x.feed(ones, ones, ones), 1000);
        c.due("14 full", x.feed(ones, 0, 0), 1000);
        c.due("15 a long number", x.cards(), 1);
        c.due("14 from the start again", x.feed(ones, 0, 0), 8);
    }

    private static void emptyTape() {
        c.fault("", 0, 0);
        c.fault(" \n ", 0, 0);
        AlarmBoxes x = new AlarmBoxes();
        c.due("15 a line", Check.cards(x, HEAD + "1;"), 0);
        c.due("31 one line", x.count(8), 1);
        c.due("15 no line", x.cards(), 0);
        c.due("31 no line", x.count(8), 0);
    }

    private static void tokens() {
        c.fault("send 1 engines 0 ladders when 1;", 0, 0);
        c.fault("send1engines 0ladders when 1;", 0, 0);
        c.fault("\nsend\n1 engines\n0 ladders when 1 ; \n", 0, 0);
        c.fault("send 009 engines 0000 ladders when 9999;", 0, 0);
        c.fault(HEAD + "box=12and(ward<1)or not call;", 0, 0);
        c.fault(HEAD + "1+2-3=4-5+6;", 0, 0);
        c.fault(HEAD + "not 1not;", 1, 35);
        c.fault("sendsend 1", 1, 0);
        c.fault("sen 1", 1, 0);
        c.fault("Send 1", 1, 0);
    }

    private static void noTokens() {
        c.fault(HEAD + "wardwards;", 1, 30);
        c.fault(HEAD + "12345;", 1, 30);
        c.fault(HEAD + "1 & 2;", 1, 32);
        c.fault(HEAD + "1 + B;", 1, 34);
        c.fault(HEAD + "{1};", 1, 30);
        c.fault("send 12345 engines", 1, 5);
        c.fault(HEAD + "1 ~", 1, 32);
    }

    private static void misplaced() {
        c.fault("1", 1, 0);
        c.fault("send", 1, 4);
        c.fault("send  ", 1, 6);
        c.fault("send engines", 1, 5);
        c.fault("send 1 ladders", 1, 7);
        c.fault("send 1 engines 1 engines", 1, 17);
        c.fault("send 1 engines ladders", 1, 15);
        c.fault("send 1 engines 1 ladders 1", 1, 25);
        c.fault(HEAD + ";", 1, 30);
        c.fault(HEAD + "1", 1, 31);
        c.fault(HEAD + "1 ", 1, 32);
        c.fault(HEAD + "1 1;", 1, 32);
        c.fault(HEAD + "(1;", 1, 32);
        c.fault(HEAD + "1);", 1, 31);
        c.fault(HEAD + "();", 1, 31);
        c.fault(HEAD + "1 < 2 < 3;", 1, 36);
        c.fault(HEAD + "1 = 2 < 3;", 1, 36);
        c.fault(HEAD + "(1 < 2) < 3;", 0, 0);
        c.fault(HEAD + "1 and or 2;", 1, 36);
        c.fault(HEAD + "- 1;", 1, 30);
        c.fault(HEAD + "1 + + 1;", 1, 34);
        c.fault(HEAD + "when;", 1, 30);
        c.fault(HEAD + "not;", 1, 33);
        c.fault(HEAD + "1 not 1;", 1, 32);
        c.fault(HEAD + "1;1", 1, 32);
        c.fault(HEAD + "1;;", 1, 32);
        c.fault(HEAD + "1; send", 1, 37);
    }

    private static void numbersNotAsTold() {
        c.fault("send 10 engines 0 ladders when 1;", 4, 5);
        c.fault("send 9 engines 9 ladders when 1;", 0, 0);
        c.fault("send 9 engines 10 ladders when 1;", 4, 15);
        c.fault("send 9999 x", 4, 5);
    }

    private static void depth() {
        c.fault(HEAD + "not not not not 1;", 0, 0);
        c.fault(HEAD + "not not not not not 1;", 5, 50);
        c.fault(HEAD + "not not not not not not;", 5, 50);
        c.fault(HEAD + "not not not not not ;", 1, 50);
        c.fault(HEAD + "((((1))));", 0, 0);
        c.fault(HEAD + "(((((1)))));", 5, 35);
        c.fault(HEAD + "((((((1))))));", 5, 35);
        c.fault(HEAD + "((((( and", 1, 36);
        c.fault(HEAD + "(not(not(not 1)));", 5, 39);
        c.fault(HEAD + "(not(not(1)));", 5, 39);
        c.fault(HEAD + "(not(not 1 + ward)) + (((box)));", 0, 0);
        c.fault(HEAD + "(not(not 1 + (ward)));", 0, 0);
        c.fault(HEAD + "1 < not not not not not 1;", 5, 54);
        c.fault(HEAD + "1 + not not not not not 1;", 5, 54);
        c.fault(HEAD + "1 or not not not not not 1;", 5, 55);
        c.fault(HEAD + "1 and 1 - (((((1)))));", 5, 45);
        c.fault(HEAD + "((((1 and call < 2 or out))));", 0, 0);
    }

    private static void lines() {
        StringBuilder text = new StringBuilder();
        for (int i = 0; i < 24; i++) {
            text.append("send 0engines 0ladders when 1;");
        }
        c.fault(text.toString(), 0, 0);
        c.fault(text + "send", 5, 24 * 30);
        c.fault(text + " send 1 engines", 5, 24 * 30 + 1);
        c.fault(text + "when", 1, 24 * 30);
        c.fault(text + ";", 1, 24 * 30);
        AlarmBoxes x = new AlarmBoxes();
        Check.cards(x, text.toString());
        c.due("31 24 lines", x.count(8), 24);
    }

    private static void oldCardsStay() {
        AlarmBoxes x = new AlarmBoxes();
        x.house(0, 0);
        for (int i = 0; i < 4; i++) {
            x.company(0, 0);
        }
        x.box(0, 11, 0, 0, 0, 0);
        Check.cards(x, "send 1 engines 0 ladders when 0; send 2 engines 0 ladders when 1;");
        c.due("15 a fault", Check.cards(x, "send 1 engines 0 ladders when 1; send"), 1 + 16 * 37);
        c.due("31 the lines stay", x.count(8), 2);
        x.alarm(0);
        c.due("16 two are sent by them", x.count(4), 2);
    }

    /** What a test tells, by whether its line counts. */
    private static void value(String test, boolean counts) {
        AlarmBoxes x = new AlarmBoxes();
        x.house(0, 0);
        x.company(0, 0);
        x.box(0, 11, 0, 0, 0, 0);
        c.due("15 " + test, Check.cards(x, HEAD + test + ";"), 0);
        x.alarm(0);
        c.due("16 " + test, x.count(4), counts ? 1 : 0);
    }

    private static void values() {
        value("0", false);
        value("1", true);
        value("9999", true);
        value("0 - 1", true);
        value("5 - 3 - 2", false);
        value("5 - 3 + 2 = 4", true);
        value("5 - (3 + 2)", false);
        value("1 < 2", true);
        value("2 < 2", false);
        value("3 < 2", false);
        value("2 = 2", true);
        value("2 = 3", false);
        value("0 - 2 < 0", true);
        value("1 + 1 = 2", true);
        value("2 = 1 + 1", true);
        value("1 + (1 = 2)", true);
        value("not 0", true);
        value("not 1", false);
        value("not 7", false);
        value("not not 7 = 1", true);
        value("not 0 + 1 = 2", true);
        value("not (0 + 1)", false);
        value("2 and 4", true);
        value("2 and 0", false);
        value("0 and 2", false);
        value("0 or 0", false);
        value("0 or 2", true);
        value("2 or 0", true);
        value("1 or 0 and 0", false);
        value("0 and 0 or 1", true);
        value("1 or (0 and 0)", true);
        value("(2 and 4) = 1", true);
        value("(2 or 4) = 1", true);
        value("(1 < 2) = 1", true);
        value("(2 = 2) + (1 < 2) = 2", true);
        value("1 = 1 and 2 = 2 or 0", true);
    }

    private static void facts() {
        AlarmBoxes x = new AlarmBoxes();
        for (int i = 0; i < 12; i++) {
            x.house(i, 0);
        }
        for (int i = 0; i < 20; i++) {
            x.company(0, 0);
        }
        x.box(0, 11, 0, 0, 0, 0);
        x.box(3, 345, 0, 0, 0, 6);
        Check.cards(x, "send 1 engines 0 ladders when box = 345 and ward = 6 and loop = 3 and hour = 0 and call = 1"
            + " and out = 0 and false = 500; send 2 engines 0 ladders when call = 2 and out = 1 and hour = 23;"
            + " send 3 engines 0 ladders when call = 3 and out = 3 and hour = 0;"
            + " send 4 engines 0 ladders when false = 666; send 5 engines 0 ladders when ward = 6 and false = 333;");
        x.alarm(0);
        c.due("16 none for another box", x.count(4), 0);
        x.alarm(1);
        c.due("16 one for this one", x.count(4), 1);
        Check.pass(x, 23 * 3600 + 3599);
        x.again(1);
        c.due("17 two at the second call", x.count(4), 3);
        x.ticks(1);
        x.again(1);
        c.due("17 three at the third", x.count(4), 6);
        x.over(1, false);
        c.due("19 all are in", x.count(4), 0);
        x.alarm(1);
        c.due("16 by the rate as known now", x.count(4), 4);
        x.word(1, true);
        x.alarm(1);
        c.due("16 by the later word", x.count(4), 9);
    }

    private static void firstLineCounts() {
        AlarmBoxes x = new AlarmBoxes();
        x.house(0, 0);
        for (int i = 0; i < 6; i++) {
            x.company(i % 2, 0);
        }
        x.box(0, 11, 0, 0, 0, 0);
        Check.cards(x, "send 3 engines 3 ladders when 0; send 1 engines 2 ladders when 1; send 3 engines 3 ladders when 1;");
        x.alarm(0);
        c.due("16 an engine", x.sent(0, 0), 0);
        c.due("16 a ladder", x.sent(0, 1), 1);
        c.due("16 a ladder", x.sent(0, 2), 3);
        c.due("16 no more", x.sent(0, 3), -1);
    }
}
