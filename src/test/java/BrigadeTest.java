/** Promises 11 to 13 and 16 to 25: houses, companies, alarms, what is sent, cover and moves. */
public final class BrigadeTest {
    private static final Check c = new Check();

    public static void main(String[] args) {
        houses();
        companies();
        pace();
        alarms();
        sending();
        nearestFirst();
        severalCalls();
        over();
        covered();
        reach();
        noMoves();
        oneMove();
        twoMoves();
        twoMovesInOrder();
        housesThatAreLeft();
        movesOfThoseThatAreIn();
        doneAndHome();
        c.end();
    }

    private static void houses() {
        AlarmBoxes x = new AlarmBoxes();
        c.due("11 x -1", x.house(-1, 0), -1);
        c.due("11 x 100", x.house(100, 0), -1);
        c.due("11 y -1", x.house(0, -1), -1);
        c.due("11 y 100", x.house(0, 100), -1);
        for (int i = 0; i < 12; i++) {
            c.due("11 house", x.house(99, 0), i);
        }
        c.due("11 the 13th", x.house(0, 0), -1);
        c.due("31 houses", x.count(2), 12);
    }

    private static void companies() {
        AlarmBoxes x = new AlarmBoxes();
        c.due("12 no house", x.company(0, 0), -1);
        x.house(5, 5);
        x.house(6, 6);
        c.due("12 kind -1", x.company(-1, 0), -1);
        c.due("12 kind 2", x.company(2, 0), -1);
        c.due("12 house -1", x.company(0, -1), -1);
        c.due("12 house 2", x.company(0, 2), -1);
        for (int i = 0; i < 20; i++) {
            c.due("12 company", x.company(i % 2, i / 10), i);
            c.due("20 at its own", x.at(i), i / 10);
            c.due("21 it is in", x.there(i), -1);
        }
        c.due("12 the 21st", x.company(0, 0), -1);
        c.due("31 companies", x.count(3), 20);
        c.due("20 at(20)", x.at(20), -1);
        c.due("20 at(-1)", x.at(-1), -1);
        c.due("21 there(20)", x.there(20), -1);
        c.due("21 there(-1)", x.there(-1), -1);
    }

    private static void pace() {
        AlarmBoxes x = new AlarmBoxes();
        c.due("13 pace 0", x.pace(0, 40), false);
        c.due("13 pace 10", x.pace(10, 40), false);
        c.due("13 reach -1", x.pace(3, -1), false);
        c.due("13 reach 199", x.pace(3, 199), false);
        c.due("13 the least", x.pace(1, 0), true);
        c.due("13 the most", x.pace(9, 198), true);
        x.house(0, 0);
        x.company(0, 0);
        x.box(0, 11, 0, 3, 4, 0);
        Check.cards(x, "send 1 engines 0 ladders when 1;");
        x.pace(10, 0);
        x.ticks(100);
        x.alarm(0);
        c.due("21 pace 9", x.there(0), 163);
        x.pace(1, 0);
        c.due("21 of one under way it stays", x.there(0), 163);
        c.due("22 others changed nothing", x.covered(0), 0);
    }

    private static void alarms() {
        AlarmBoxes x = new AlarmBoxes();
        c.due("16 no box", x.alarm(0), -1);
        x.box(0, 11, 0, 3, 4, 0);
        c.due("16 box -1", x.alarm(-1), -1);
        c.due("16 box 1", x.alarm(1), -1);
        c.due("17 none", x.again(0), -1);
        c.due("19 none", x.over(0, true), false);
        for (int i = 0; i < 100; i++) {
            c.due("16 alarm", x.alarm(0), i);
        }
        c.due("16 the 101st", x.alarm(0), -1);
        c.due("31 alarms", x.count(5), 100);
        c.due("31 not over", x.count(6), 100);
        c.due("17 second call", x.again(99), 2);
        c.due("17 third call", x.again(99), 3);
        c.due("17 no fourth", x.again(99), -1);
        c.due("17 -1", x.again(-1), -1);
        c.due("17 100", x.again(100), -1);
        c.due("19 over", x.over(98, true), true);
        c.due("19 once", x.over(98, false), false);
        c.due("19 -1", x.over(-1, false), false);
        c.due("19 100", x.over(100, false), false);
        c.due("17 it is over", x.again(98), -1);
        c.due("31 one is over", x.count(6), 99);
        c.due("18 nothing sent", x.sent(0, 0), -1);
    }

    private static void sending() {
        AlarmBoxes x = new AlarmBoxes();
        x.house(10, 10);
        x.company(1, 0);
        x.company(0, 0);
        x.company(1, 0);
        x.company(0, 0);
        x.box(0, 11, 0, 12, 7, 0);
        x.alarm(0);
        c.due("16 no cards: none", x.count(4), 0);
        Check.cards(x, "send 1 engines 5 ladders when 1;");
        x.ticks(50);
        c.due("16 the second", x.alarm(0), 1);
        c.due("18 the engine first", x.sent(1, 0), 1);
        c.due("18 then ladders", x.sent(1, 1), 0);
        c.due("18 as far as there are", x.sent(1, 2), 2);
        c.due("18 no more", x.sent(1, 3), -1);
        c.due("18 i -1", x.sent(1, -1), -1);
        c.due("18 alarm 2", x.sent(2, 0), -1);
        c.due("18 alarm -1", x.sent(-1, 0), -1);
        c.due("18 of the first none", x.sent(0, 0), -1);
        c.due("20 it is sent", x.at(1), -1);
        c.due("20 the other engine is in", x.at(3), 0);
        c.due("21 pace 3, way 5", x.there(1), 65);
        c.due("21 the other engine", x.there(3), -1);
        c.due("31 sent", x.count(4), 3);
        x.ticks(50);
        c.due("20 it is there, yet not in", x.at(1), -1);
        c.due("21 it was there then", x.there(1), 65);
        c.due("16 the third", x.alarm(0), 2);
        c.due("18 the engine that is in", x.sent(2, 0), 3);
        c.due("18 no ladder is in", x.sent(2, 1), -1);
    }

    private static void nearestFirst() {
        AlarmBoxes x = new AlarmBoxes();
        x.house(50, 50);
        x.house(10, 10);
        x.house(11, 9);
        x.house(20, 0);
        x.company(0, 0);
        x.company(0, 3);
        x.company(0, 2);
        x.company(0, 1);
        x.company(0, 0);
        x.box(0, 11, 0, 9, 9, 0);
        Check.cards(x, "send 9 engines 0 ladders when 1;");
        x.alarm(0);
        int[] order = {3, 2, 1, 0, 4};
        c.due("18 way 2, 2: the least company", x.sent(0, 0), 2);
        c.due("18 way 2", x.sent(0, 1), 3);
        for (int i = 2; i < 5; i++) {
            c.due("18 by way, then by company", x.sent(0, i), order[i]);
        }
        c.due("18 the end", x.sent(0, 5), -1);
        c.due("21 way 20", x.there(1), 60);
        c.due("21 way 82", x.there(0), 246);
    }

    private static void severalCalls() {
        AlarmBoxes x = new AlarmBoxes();
        x.house(0, 0);
        for (int i = 0; i < 5; i++) {
            x.company(i == 2 ? 1 : 0, 0);
        }
        x.box(0, 11, 0, 1, 1, 0);
        Check.cards(x, "send 1 engines 0 ladders when call = 1; send 1 engines 1 ladders when call = 2;"
            + " send 0 engines 0 ladders when call = 3 and out = 3; send 9 engines 9 ladders when 1;");
        x.alarm(0);
        c.due("17 2", x.again(0), 2);
        c.due("17 3", x.again(0), 3);
        int[] due = {0, 1, 2, -1};
        for (int i = 0; i < 4; i++) {
            c.due("18 sent " + i, x.sent(0, i), due[i]);
        }
    }

    private static void over() {
        AlarmBoxes x = new AlarmBoxes();
        x.house(0, 0);
        x.house(9, 9);
        x.company(0, 0);
        x.company(0, 1);
        x.company(0, 1);
        x.box(0, 11, 0, 1, 1, 0);
        Check.cards(x, "send 2 engines 0 ladders when call = 1; send 9 engines 0 ladders when 1;");
        x.alarm(0);
        x.alarm(0);
        c.due("18 the second alarm's", x.sent(1, 0), 2);
        c.due("19 over", x.over(0, true), true);
        c.due("20 home", x.at(0), 0);
        c.due("20 home", x.at(1), 1);
        c.due("20 the other alarm's stays", x.at(2), -1);
        c.due("21 in again", x.there(0), -1);
        c.due("18 what was sent is told still", x.sent(0, 1), 1);
        c.due("31 one is out", x.count(4), 1);
        x.again(1);
        c.due("18 those that came home", x.sent(1, 1), 0);
        c.due("18 those that came home", x.sent(1, 2), 1);
    }

    private static void covered() {
        AlarmBoxes x = new AlarmBoxes();
        c.due("22 no boxes", x.covered(0), -1);
        c.due("22 ward -1", x.covered(-1), -1);
        c.due("22 ward 8", x.covered(8), -1);
        x.box(0, 11, 0, 0, 0, 7);
        c.due("22 no engine", x.covered(7), 0);
        x.house(40, 0);
        x.company(1, 0);
        c.due("22 a ladder is none", x.covered(7), 0);
        x.company(0, 0);
        c.due("22 an engine at 40", x.covered(7), 1);
        c.due("22 another ward", x.covered(6), -1);
        x.box(0, 12, 0, 99, 0, 7);
        c.due("22 each box", x.covered(7), 0);
        x.house(99, 40);
        x.company(0, 1);
        c.due("22 not one for all", x.covered(7), 1);
        Check.cards(x, "send 1 engines 0 ladders when 1;");
        x.alarm(1);
        c.due("22 one is sent", x.covered(7), 0);
        x.over(0, true);
        c.due("22 and home", x.covered(7), 1);
    }

    private static void reach() {
        AlarmBoxes x = new AlarmBoxes();
        x.box(0, 11, 0, 0, 0, 1);
        x.house(20, 21);
        x.company(0, 0);
        c.due("22 41 is beyond 40", x.covered(1), 0);
        x.pace(1, 41);
        c.due("22 within 41", x.covered(1), 1);
        x.pace(1, 0);
        c.due("22 beyond 0", x.covered(1), 0);
        x.box(0, 12, 0, 20, 21, 2);
        c.due("22 within 0", x.covered(2), 1);
        x.box(0, 13, 0, 99, 99, 3);
        x.pace(1, 198);
        c.due("22 within 198", x.covered(3), 1);
    }

    private static void noMoves() {
        AlarmBoxes x = new AlarmBoxes();
        c.due("23 no boxes", x.moves(), 0);
        c.due("25 no boxes", x.done(), 0);
        c.due("24 no moves", x.move(0, 0), -1);
        x.box(0, 11, 0, 0, 0, 1);
        c.due("23 no engine", x.moves(), -1);
        c.due("25 no engine", x.done(), -1);
        c.due("24 no engine", x.move(0, 0), -1);
        x.house(0, 0);
        x.company(0, 0);
        c.due("23 covered", x.moves(), 0);
        c.due("25 covered", x.done(), 0);
        c.due("24 covered", x.move(0, 0), -1);
    }

    /** Of houses 1, 2 and 3 in reach of the far box, 1 is manned by a ladder alone, 2 is the first with room. */
    private static void oneMove() {
        AlarmBoxes x = new AlarmBoxes();
        x.pace(3, 5);
        x.house(0, 0);
        x.house(90, 90);
        x.house(91, 90);
        x.house(90, 91);
        x.company(1, 1);
        x.company(0, 0);
        x.company(0, 0);
        x.box(0, 11, 0, 1, 1, 0);
        x.box(0, 12, 0, 92, 92, 1);
        c.due("23 one", x.moves(), 1);
        c.due("24 the first company that is an engine", x.move(0, 0), 1);
        c.due("24 the first house: a ladder does not matter", x.move(0, 1), 1);
        c.due("24 what 2", x.move(0, 2), -1);
        c.due("24 what -1", x.move(0, -1), -1);
        c.due("24 i 1", x.move(1, 0), -1);
        c.due("24 i -1", x.move(-1, 0), -1);
        c.due("20 nothing has moved", x.at(1), 0);
        c.due("25 one", x.done(), 1);
        c.due("20 it has moved", x.at(1), 1);
        c.due("20 the other stays", x.at(2), 0);
        c.due("20 the ladder stays", x.at(0), 1);
        c.due("22 covered", x.covered(1), 1);
        c.due("23 no more", x.moves(), 0);
    }

    private static void twoMoves() {
        AlarmBoxes x = new AlarmBoxes();
        x.pace(3, 5);
        x.house(0, 0);
        x.house(90, 90);
        x.house(0, 90);
        x.house(90, 0);
        for (int i = 0; i < 3; i++) {
            x.company(0, 0);
        }
        x.box(0, 11, 0, 1, 1, 0);
        x.box(0, 12, 0, 90, 90, 1);
        x.box(0, 13, 0, 90, 0, 2);
        c.due("23 two", x.moves(), 2);
        c.due("24 first", x.move(0, 0), 0);
        c.due("24 its house", x.move(0, 1), 1);
        c.due("24 second", x.move(1, 0), 1);
        c.due("24 its house", x.move(1, 1), 3);
        c.due("24 no third", x.move(2, 0), -1);
        c.due("25 two", x.done(), 2);
        c.due("20 at", x.at(0), 1);
        c.due("20 at", x.at(1), 3);
        c.due("20 at", x.at(2), 0);
        x.box(0, 14, 0, 0, 90, 3);
        c.due("23 three engines for four places", x.moves(), -1);
        x.company(0, 0);
        c.due("23 one more: one move", x.moves(), 1);
        c.due("24 of those in house 0 the first", x.move(0, 0), 2);
    }

    /** The engine in house 0 must stay, so the first mover is company 1; two houses serve each box. */
    private static void twoMovesInOrder() {
        AlarmBoxes x = new AlarmBoxes();
        x.pace(3, 5);
        x.house(0, 0);
        x.house(50, 50);
        x.house(90, 91);
        x.house(90, 90);
        x.house(0, 91);
        x.house(0, 90);
        x.company(0, 0);
        x.company(0, 1);
        x.company(0, 1);
        x.company(0, 1);
        x.box(0, 11, 0, 1, 1, 0);
        x.box(0, 12, 0, 90, 90, 1);
        x.box(0, 13, 0, 0, 90, 1);
        c.due("23 two", x.moves(), 2);
        c.due("24 company 1", x.move(0, 0), 1);
        c.due("24 to 2", x.move(0, 1), 2);
        c.due("24 company 2", x.move(1, 0), 2);
        c.due("24 to 4", x.move(1, 1), 4);
    }

    /** Engine 0 could go to house 1 if engine 1 left it ahead; it may not, for engine 1 is in there. */
    private static void housesThatAreLeft() {
        AlarmBoxes x = new AlarmBoxes();
        x.pace(3, 5);
        x.house(0, 0);
        x.house(20, 0);
        x.house(40, 0);
        x.company(0, 0);
        x.company(0, 1);
        x.box(0, 11, 0, 20, 0, 0);
        x.box(0, 12, 0, 40, 0, 0);
        c.due("23 engine 0 goes to house 2", x.moves(), 1);
        c.due("24 engine 0", x.move(0, 0), 0);
        x.done();
        AlarmBoxes y = new AlarmBoxes();
        y.pace(3, 20);
        y.house(0, 0);
        y.house(21, 0);
        y.house(99, 99);
        y.company(0, 0);
        y.company(0, 1);
        y.box(0, 11, 0, 25, 0, 0);
        y.box(0, 12, 0, 99, 99, 0);
        c.due("23 one: engine 0 goes far", y.moves(), 1);
        y.box(0, 13, 0, 0, 0, 0);
        c.due("23 three places, two engines", y.moves(), -1);
    }

    private static void movesOfThoseThatAreIn() {
        AlarmBoxes x = new AlarmBoxes();
        x.pace(3, 5);
        x.house(0, 0);
        x.house(9, 9);
        x.house(90, 90);
        x.company(0, 0);
        x.company(0, 1);
        x.box(0, 11, 0, 0, 0, 0);
        Check.cards(x, "send 1 engines 0 ladders when 1;");
        x.alarm(0);
        c.due("23 the other one fills in", x.moves(), 1);
        c.due("24 company", x.move(0, 0), 1);
        c.due("24 into the house that was left", x.move(0, 1), 0);
        c.due("25 done", x.done(), 1);
        x.over(0, true);
        c.due("20 both are in one house", x.at(0), 0);
        c.due("20 both are in one house", x.at(1), 0);
        x.box(0, 12, 0, 90, 90, 0);
        c.due("23 one of them goes", x.moves(), 1);
        c.due("24 the first", x.move(0, 0), 0);
    }

    private static void doneAndHome() {
        AlarmBoxes x = new AlarmBoxes();
        x.pace(1, 5);
        x.house(0, 0);
        x.house(50, 50);
        x.company(0, 0);
        x.box(0, 11, 0, 50, 50, 0);
        c.due("25 done", x.done(), 1);
        Check.cards(x, "send 1 engines 0 ladders when 1;");
        x.alarm(0);
        c.due("21 the way is from where it is", x.there(0), 0);
        x.over(0, false);
        c.due("20 its own house is the old one", x.at(0), 0);
    }
}
