/** Promises 7 to 10: readings, stories, which box to ask for. */
public final class ReadingsTest {
    private static final Check c = new Check();

    public static void main(String[] args) {
        ahead();
        ranges();
        oneStory();
        tailOfTape();
        unexplained();
        begunAhead();
        overlapping();
        threeBeginnings();
        fourBeginnings();
        twoHundred();
        askChooses();
        globalNumbers();
        allWheels();
        lastTicks();
        c.end();
    }

    private static void ahead() {
        AlarmBoxes x = new AlarmBoxes();
        c.due("8 ahead of any", x.stories(), 0);
        c.due("9 ahead of any", x.story(0, 0, 0), -1);
        c.due("10 ahead of any", x.ask(), -1);
    }

    private static void ranges() {
        AlarmBoxes x = new AlarmBoxes();
        x.box(0, 11, 0, 0, 0, 0);
        x.pull(0);
        x.ticks(400);
        c.due("7 300 ticks", x.reading(0, 1, 300), 1);
        c.due("7 301 ticks", x.reading(0, 1, 301), -2);
        c.due("7 loop 4", x.reading(4, 1, 300), -2);
        c.due("7 loop -1", x.reading(-1, 1, 300), -2);
        c.due("7 from 0", x.reading(0, 0, 10), -2);
        c.due("7 from -5", x.reading(0, -5, 10), -2);
        c.due("7 to beyond now", x.reading(0, 300, 401), -2);
        c.due("7 no tick", x.reading(0, 11, 10), -2);
        c.due("7 far apart", x.reading(0, Integer.MAX_VALUE, Integer.MIN_VALUE), -2);
        c.due("8 the reading ahead stays", x.stories(), 1);
        c.due("9 its beginning", x.story(0, 0, 1), 1);
        c.due("7 the latest 300", x.reading(0, 101, 400), 0);
        c.due("8 the empty story", x.stories(), 1);
        c.due("9 it has no beginning", x.story(0, 0, 0), -1);
        c.due("10 one story", x.ask(), -1);
        c.due("7 a loop of no boxes", x.reading(3, 1, 10), 0);
        c.due("7 one tick", x.reading(0, 1, 1), 1);
    }

    private static void oneStory() {
        AlarmBoxes x = new AlarmBoxes();
        x.box(0, 12, 0, 0, 0, 0);
        x.box(0, 21, 0, 0, 0, 0);
        x.ticks(5);
        x.pull(1);
        x.ticks(60);
        c.due("7 the whole", x.reading(0, 1, 65), 1);
        c.due("8 one", x.stories(), 1);
        c.due("9 box", x.story(0, 0, 0), 1);
        c.due("9 tick", x.story(0, 0, 1), 6);
        c.due("9 what 2", x.story(0, 0, 2), -1);
        c.due("9 what -1", x.story(0, 0, -1), -1);
        c.due("9 j 1", x.story(0, 1, 0), -1);
        c.due("9 j -1", x.story(0, -1, 0), -1);
        c.due("9 i 1", x.story(1, 0, 0), -1);
        c.due("9 i -1", x.story(-1, 0, 0), -1);
        c.due("10 one story", x.ask(), -1);
    }

    /** At the end of the range little of a wheel is seen: all boxes can have knocked so. */
    private static void tailOfTape() {
        AlarmBoxes x = new AlarmBoxes();
        x.box(0, 21, 0, 0, 0, 0);
        x.box(0, 22, 0, 0, 0, 0);
        x.box(0, 31, 0, 0, 0, 0);
        x.pull(1);
        x.ticks(3);
        c.due("7 two knocks: 1 and 3", x.reading(0, 1, 3), 1);
        c.due("8 all three", x.stories(), 3);
        c.due("10 the first of equal ones", x.ask(), 0);
        x.ticks(3);
        c.due("7 then quiet at 5", x.reading(0, 1, 6), 1);
        c.due("8 21 and 22 are left", x.stories(), 2);
        c.due("9 the first by box", x.story(0, 0, 0), 0);
        c.due("9 the second by box", x.story(1, 0, 0), 1);
        c.due("10 a half each, the first one", x.ask(), 0);
        x.ticks(3);
        c.due("7 a knock at 9", x.reading(0, 1, 9), 1);
        c.due("8 22 alone", x.stories(), 1);
        c.due("9 22", x.story(0, 0, 0), 1);
    }

    private static void unexplained() {
        AlarmBoxes x = new AlarmBoxes();
        x.box(0, 11, 0, 0, 0, 0);
        x.box(0, 12, 0, 0, 0, 0);
        x.pull(0);
        x.ticks(1);
        x.cut(0, 0, true);
        x.cut(0, 1, true);
        x.ticks(5);
        x.cut(0, 0, false);
        x.ticks(40);
        c.due("7 a knock that was not heard", x.reading(0, 1, 40), -1);
        c.due("8 no stories", x.stories(), 0);
        c.due("9 none", x.story(0, 0, 0), -1);
        c.due("10 none", x.ask(), -1);
    }

    /** A beginning ahead of the range is no part of a story. */
    private static void begunAhead() {
        AlarmBoxes x = new AlarmBoxes();
        x.box(0, 22, 0, 0, 0, 0);
        x.pull(0);
        x.ticks(60);
        c.due("7 from its begin", x.reading(0, 1, 60), 1);
        c.due("7 from its second knock", x.reading(0, 2, 60), -1);
        x.box(0, 11, 0, 0, 0, 0);
        c.due("7 the last knock alone", x.reading(0, 37, 37), 1);
        c.due("8 either box", x.stories(), 2);
    }

    /** 11 (0 4, 11 15, 22 26) and 12 (0 4 6, 13 17 19, 26 30 32) begun one behind the other. */
    private static void overlapping() {
        AlarmBoxes x = new AlarmBoxes();
        x.box(0, 12, 0, 0, 0, 0);
        x.box(0, 11, 0, 0, 0, 0);
        x.pull(1);
        x.ticks(2);
        x.pull(0);
        x.ticks(60);
        c.due("7 two", x.reading(0, 1, 62), 2);
        c.due("8 one story", x.stories(), 1);
        c.due("9 by the box, not by the tick", x.story(0, 0, 0), 0);
        c.due("9 its tick", x.story(0, 0, 1), 3);
        c.due("9 the other one", x.story(0, 1, 0), 1);
        c.due("9 its tick", x.story(0, 1, 1), 1);
        c.due("9 no third", x.story(0, 2, 0), -1);
    }

    private static void threeBeginnings() {
        AlarmBoxes x = new AlarmBoxes();
        x.box(0, 11, 0, 0, 0, 0);
        x.box(0, 12, 0, 0, 0, 0);
        x.box(0, 13, 0, 0, 0, 0);
        x.pull(2);
        x.ticks(1);
        x.pull(0);
        x.ticks(1);
        x.pull(1);
        x.ticks(1);
        c.due("7 three at three ticks", x.reading(0, 1, 3), 3);
        c.due("8 all orders", x.stories(), 6);
        int[][] ticks = {{1, 2, 3}, {1, 3, 2}, {2, 1, 3}, {2, 3, 1}, {3, 1, 2}, {3, 2, 1}};
        for (int i = 0; i < 6; i++) {
            for (int j = 0; j < 3; j++) {
                c.due("9 box " + i + " " + j, x.story(i, j, 0), j);
                c.due("9 tick " + i + " " + j, x.story(i, j, 1), ticks[i][j]);
            }
        }
        c.due("10 all have all", x.ask(), 0);
        x.ticks(100);
        c.due("7 the whole of it", x.reading(0, 1, 100), 3);
        c.due("8 one", x.stories(), 1);
        c.due("9 11 at 2", x.story(0, 0, 1), 2);
        c.due("9 12 at 3", x.story(0, 1, 1), 3);
        c.due("9 13 at 1", x.story(0, 2, 1), 1);
    }

    private static void fourBeginnings() {
        AlarmBoxes x = new AlarmBoxes();
        for (int i = 1; i <= 4; i++) {
            x.box(0, 10 + i, 0, 0, 0, 0);
        }
        for (int i = 0; i < 4; i++) {
            x.pull(i);
            x.ticks(1);
        }
        c.due("7 four are too many", x.reading(0, 1, 4), -1);
        c.due("8 no stories", x.stories(), 0);
        c.due("7 three of them", x.reading(0, 1, 3), 3);
        c.due("8 24 stories", x.stories(), 24);
    }

    /** Twelve boxes, three knocks in a row: 1320 stories, of which the first 200 count, for asking, too. */
    private static void twoHundred() {
        AlarmBoxes x = new AlarmBoxes();
        for (int i = 0; i < 12; i++) {
            x.box(0, 111 + i % 5 + 10 * (i / 5), 0, 0, 0, 0);
        }
        for (int i = 0; i < 3; i++) {
            x.pull(i);
            x.ticks(1);
        }
        c.due("7 three", x.reading(0, 1, 3), 3);
        c.due("8 the first 200", x.stories(), 200);
        c.due("9 the 200th: box", x.story(199, 0, 0), 0);
        c.due("9 the 200th: tick", x.story(199, 0, 1), 2);
        c.due("9 none behind", x.story(200, 0, 0), -1);
        c.due("9 the third story: its second beginning at 2", x.story(2, 1, 1), 2);
        c.due("9 the third story: its third box", x.story(2, 2, 0), 4);
        c.due("10 among the first 200", x.ask(), 1);
    }

    private static void askChooses() {
        AlarmBoxes x = new AlarmBoxes();
        x.box(0, 55, 0, 0, 0, 0);
        x.box(0, 11, 0, 0, 0, 0);
        x.box(0, 12, 0, 0, 0, 0);
        x.pull(1);
        x.ticks(5);
        c.due("7 1 and 5", x.reading(0, 1, 5), 1);
        c.due("8 11 and 12", x.stories(), 2);
        c.due("10 not the box that none has", x.ask(), 1);
        x.box(0, 13, 0, 0, 0, 0);
        c.due("10 a box more changes nothing", x.ask(), 1);
    }

    /** A story tells boxes by their number among all, in the order along the loop. */
    private static void globalNumbers() {
        AlarmBoxes x = new AlarmBoxes();
        x.box(1, 11, 0, 0, 0, 0);
        x.box(0, 11, 0, 0, 0, 0);
        x.box(1, 12, 0, 0, 0, 0);
        x.pull(2);
        x.ticks(5);
        c.due("7 two ways", x.reading(1, 1, 5), 1);
        c.due("9 the first box of loop 1", x.story(0, 0, 0), 0);
        c.due("9 the second box of loop 1", x.story(1, 0, 0), 2);
        x.ticks(2);
        c.due("7 one way", x.reading(1, 1, 7), 1);
        c.due("9 the second box alone", x.story(0, 0, 0), 2);
    }

    /** Each wheel, begun at each of 64 ticks of the range, is read as the one box that there is. */
    private static void allWheels() {
        for (int number = 11; number <= 555; number++) {
            AlarmBoxes x = new AlarmBoxes();
            if (x.box(2, number, 0, 0, 0, 0) == 0) {
                x.ticks(100);
                x.pull(0);
                x.ticks(230);
                for (int from = 101; from > 101 - 64; from--) {
                    String call = "reading(2, " + from + ", " + (from + 229) + ") of " + number;
                    c.due("7 " + call, x.reading(2, from, from + 229), 1);
                    c.due("8 " + call, x.stories(), 1);
                    c.due("9 " + call, x.story(0, 0, 1), 101);
                }
            }
        }
    }

    /** 11 and 12 begin alike; 12 knocks once more 6 ticks behind: this tick tells them apart if the range holds it. */
    private static void lastTicks() {
        for (int shortest = 7; shortest <= 300; shortest += 98) {
            AlarmBoxes x = new AlarmBoxes();
            x.box(0, 11, 0, 0, 0, 0);
            x.box(0, 12, 0, 0, 0, 0);
            x.ticks(300);
            x.pull(0);
            x.ticks(10);
            for (int length = shortest; length < shortest + 98; length++) {
                c.due("7 " + length + " ticks", x.reading(0, 308 - length, 307), 1);
                c.due("8 " + length + " ticks", x.stories(), 1);
                c.due("7 " + length + " ticks, one less", x.reading(0, 307 - length, 306), 1);
                c.due("8 " + length + " ticks, one less", x.stories(), 2);
            }
        }
    }
}
