import java.util.ArrayList;
import java.util.List;

/**
 * Promise by promise the boundaries that its sentences, and the terms behind them, name: the last that is still taken
 * and the first that is not, empty and full, the wrap-around. What is refused altogether stands in RefusalsTest.
 */
public final class BoundsTest {
    private static final Check c = new Check();
    private static final int DAY = 86400;
    private static final String HEAD = "send 1 engines 0 ladders when ";

    public static void main(String[] args) {
        promise1();
        promise2();
        promise3();
        promise4Plain();
        promise4Waiting();
        promise4QuietForSeven();
        promise4OneAlone();
        promise5();
        promise6Ring();
        promise7Ticks();
        promise7EachTickCounts();
        promise7BoxOnceAtMost();
        promise7ThreeAtMost();
        promise8();
        promise9Order();
        promise9OrderByTicks();
        promise9SameTick();
        promise10();
        promises11And12();
        promise13();
        promise14();
        promise15Words();
        promise15Numbers();
        promise15Signs();
        promise15Lines();
        promise15ReadAnew();
        promise15LongAndDeep();
        promise16Hour();
        promise16Lines();
        promise16Far();
        promises16To18Most();
        promises19To21();
        promise22();
        promises23To25();
        promises26And27();
        promises28And29();
        promise30();
        c.end();
    }

    private static AlarmBoxes loopOf(int... numbers) {
        AlarmBoxes x = new AlarmBoxes();
        for (int number : numbers) {
            x.box(0, number, 0, 0, 0, 0);
        }
        return x;
    }

    private static void promise1() {
        AlarmBoxes x = new AlarmBoxes();
        c.due("1 NOW is 0", x.ticks(0), 0);
        c.due("1 no signs, no lines", x.cards(), 0);
        for (int loop = 0; loop < 4; loop++) {
            c.due("1 the first tick is quiet", x.reading(loop, 1, 1), -2);
        }
        x.ticks(1);
        for (int loop = 0; loop < 4; loop++) {
            c.due("1 no wire but 0", x.cut(loop, 1, true), false);
            c.due("1 wire 0", x.cut(loop, 0, false), true);
            c.due("1 quiet", x.knocked(loop, 1), 0);
            c.due("1 nothing on the tape", x.reading(loop, 1, 1), 0);
        }
        for (int ward = 0; ward < 8; ward++) {
            c.due("1 no boxes in ward " + ward, x.worst(ward), -1);
        }
    }

    private static void promise2() {
        AlarmBoxes x = new AlarmBoxes();
        for (int i = 0; i < 199; i++) {
            x.ticks(5000);
        }
        c.due("2 5000 beyond 995000", x.ticks(5000), -1);
        AlarmBoxes y = new AlarmBoxes();
        y.ticks(4999);
        for (int i = 0; i < 198; i++) {
            y.ticks(5000);
        }
        c.due("2 to 994999", y.count(0), 994999);
        c.due("2 5000 to the last one", y.ticks(5000), 999999);
        c.due("2 one more", y.ticks(1), -1);
        c.due("2 none more", y.ticks(0), 999999);
    }

    private static void promise3() {
        int taken = 0;
        for (int number = -600; number <= 1200; number++) {
            boolean due = String.valueOf(number).matches("[1-5]{2,3}");
            taken += due ? 1 : 0;
            c.due("3 number " + number, new AlarmBoxes().box(0, number, 0, 0, 0, 0), due ? 0 : -1);
        }
        c.due("3 numbers that can be", taken, 150);
        for (int i = -2; i <= 101; i++) {
            c.due("3 loop " + i, new AlarmBoxes().box(i, 11, 0, 0, 0, 0), i >= 0 && i <= 3 ? 0 : -1);
            c.due("3 kind " + i, new AlarmBoxes().box(0, 11, i, 0, 0, 0), i >= 0 && i <= 1 ? 0 : -1);
            c.due("3 x " + i, new AlarmBoxes().box(0, 11, 0, i, 0, 0), i >= 0 && i <= 99 ? 0 : -1);
            c.due("3 y " + i, new AlarmBoxes().box(0, 11, 0, 0, i, 0), i >= 0 && i <= 99 ? 0 : -1);
            c.due("3 ward " + i, new AlarmBoxes().box(0, 11, 0, 0, 0, i), i >= 0 && i <= 7 ? 0 : -1);
        }
        AlarmBoxes x = new AlarmBoxes();
        for (int i = 0; i < 32; i++) {
            c.due("3 eight in each loop", x.box(i % 4, 11 + i / 4 % 5 + 10 * (i / 20), 0, 0, 0, 0), i);
        }
        for (int loop = 0; loop < 4; loop++) {
            c.due("3 the 33rd, though the loop has room", x.box(loop, 55, 0, 0, 0, 0), -1);
        }
    }

    /** Each wheel: pulled from its begin to its last knock, not behind it. */
    private static void promise4Plain() {
        for (int number = 11; number <= 555; number++) {
            AlarmBoxes x = new AlarmBoxes();
            if (x.box(1, number, 0, 0, 0, 0) == 0) {
                int last = 0;
                for (int rest = number; rest > 0; rest /= 10) {
                    last += 2 * (rest % 10) + 2;
                }
                last = 3 * (last - 3) + 12;
                x.pull(0);
                x.ticks(last);
                c.due("4 the last knock of " + number, x.knocked(1, last), 1);
                c.due("4 at the last knock of " + number, x.pull(0), false);
                x.ticks(1);
                c.due("4 behind the last knock of " + number, x.pull(0), true);
                c.due("30 begins at once", Check.look(x, 0, 6), last + 2);
            }
        }
        AlarmBoxes x = loopOf(11);
        Check.pass(x, 999999);
        c.due("4 at the last tick", x.pull(0), true);
        c.due("30 the tick that never comes", Check.look(x, 0, 6), 1000000);
        c.due("30 it goes on", Check.look(x, 0, 4), 2);
    }

    private static void promise4Waiting() {
        AlarmBoxes x = new AlarmBoxes();
        x.box(0, 11, 1, 0, 0, 0);
        x.ticks(50);
        x.pull(0);
        x.ticks(0);
        c.due("4 it begins behind NOW, not at it", Check.look(x, 0, 4), 1);
        c.due("6 nothing is on the tape of NOW", x.knocked(0, 50), 0);
        x.ticks(1);
        c.due("4 at the first tick behind", Check.look(x, 0, 6), 51);
        AlarmBoxes y = new AlarmBoxes();
        y.box(0, 11, 1, 0, 0, 0);
        y.pull(0);
        y.ticks(5000);
        c.due("4 ticks up to 0 were quiet", Check.look(y, 0, 6), 1);
        AlarmBoxes z = new AlarmBoxes();
        z.box(0, 11, 1, 0, 0, 0);
        Check.pass(z, 999999);
        c.due("4 it is pulled at the last tick", z.pull(0), true);
        c.due("31 it waits", z.count(11), 1);
        c.due("30 it never began", Check.look(z, 0, 6), -1);
    }

    /**
     * 11 knocks at 1 5, 12 16, 23 27. Heard up to "deaf", it goes on unheard to 27: the other one begins at 28 or
     * behind seven quiet ticks, what is later.
     */
    private static void promise4QuietForSeven() {
        for (int deaf = 15; deaf <= 27; deaf++) {
            AlarmBoxes x = new AlarmBoxes();
            x.box(0, 11, 0, 0, 0, 0);
            x.box(0, 12, 1, 0, 0, 0);
            x.pull(0);
            x.pull(1);
            x.ticks(deaf);
            x.cut(0, 0, true);
            x.cut(0, 1, true);
            int begins = deaf >= 27 ? 35 : deaf >= 23 ? 31 : 28;
            x.ticks(begins - 1 - deaf);
            c.due("4 heard up to " + deaf + ": it waits", Check.look(x, 1, 4), 1);
            x.ticks(1);
            c.due("4 heard up to " + deaf + ": it begins", Check.look(x, 1, 6), begins);
        }
        AlarmBoxes y = new AlarmBoxes();
        y.box(0, 11, 0, 0, 0, 0);
        y.box(1, 11, 1, 0, 0, 0);
        y.pull(0);
        y.ticks(3);
        y.pull(1);
        y.ticks(1);
        c.due("4 another loop need not be quiet", Check.look(y, 1, 6), 4);
    }

    private static void promise4OneAlone() {
        AlarmBoxes x = new AlarmBoxes();
        for (int i = 1; i <= 4; i++) {
            x.box(0, 10 + i, 1, 0, 0, 0);
        }
        x.cut(0, 0, true);
        x.cut(0, 4, true);
        for (int i = 3; i >= 1; i--) {
            x.pull(i);
        }
        x.ticks(1);
        c.due("4 the first along the loop begins, dumb or not", Check.look(x, 1, 6), 1);
        c.due("4 it alone", x.count(10), 1);
        x.pull(0);
        x.ticks(32);
        c.due("4 at the last knock of 12 no other one begins", x.count(11), 3);
        x.ticks(1);
        c.due("4 the tick behind: the first that waits then", Check.look(x, 0, 6), 34);
        x.ticks(5000);
        c.due("4 then the next one", Check.look(x, 2, 6), 61);
        c.due("4 then the last one", Check.look(x, 3, 6), 100);
    }

    private static void promise5() {
        for (int n = 0; n <= 12; n++) {
            AlarmBoxes x = new AlarmBoxes();
            for (int i = 0; i < n; i++) {
                x.box(2, 111 + i % 5 + 10 * (i / 5), 0, 0, 0, 0);
            }
            c.due("5 the last of wires 0 to " + n, x.cut(2, n, true), true);
            c.due("5 the first that is none", x.cut(2, n + 1, true), false);
            c.due("31 one is cut", x.count(12), 1);
            for (int i = 0; i < n; i++) {
                c.due("5 one cut wire makes none dumb", Check.look(x, i, 5), 0);
            }
        }
        for (int first = 0; first <= 3; first++) {
            for (int last = first + 1; last <= 4; last++) {
                AlarmBoxes x = loopOf(11, 12, 13, 14);
                x.cut(0, last, true);
                x.cut(0, first, true);
                for (int i = 0; i < 4; i++) {
                    c.due("5 cut at " + first + " and " + last + ": box " + i, Check.look(x, i, 5), i >= first && i < last ? 1 : 0);
                }
                x.cut(0, first, false);
                c.due("5 one is whole again", Check.look(x, first, 5), 0);
            }
        }
    }

    /** 55 knocks 30 times; of 40 runs the tape holds the last 16 and the last 20 knocks of the one ahead of them. */
    private static void promise6Ring() {
        AlarmBoxes x = loopOf(55);
        for (int run = 0; run < 40; run++) {
            x.pull(0);
            x.ticks(1);
            x.ticks(0);
            x.ticks(99);
        }
        for (int run = 22; run <= 24; run++) {
            for (int k = 0; k < 30; k++) {
                int tick = 100 * run + 1 + 27 * (k / 10) + 12 * (k / 5 % 2) + 2 * (k % 5);
                int back = 30 * (39 - run) + 30 - k;
                c.due("6 the knock " + back + " from the end", x.knocked(0, tick), back <= 500 ? 1 : 0);
            }
        }
        c.due("6 what is off the tape is quiet to a reading", x.reading(0, 2201, 2327), 0);
        c.due("6 the half run is none of a box", x.reading(0, 2301, 2400), -1);
        c.due("6 the first whole run", x.reading(0, 2401, 2500), 1);
        AlarmBoxes y = loopOf(55);
        for (int run = 0; run < 16; run++) {
            y.pull(0);
            y.ticks(100);
        }
        c.due("6 480 knocks: the first is there", y.knocked(0, 1), 1);
        y.pull(0);
        y.ticks(47);
        c.due("6 500: the first is there", y.knocked(0, 1), 1);
        y.ticks(1);
        c.due("6 a quiet tick does not count", y.knocked(0, 1), 1);
        y.ticks(7);
        c.due("6 501: the first is gone", y.knocked(0, 1), 0);
        c.due("6 the second is there", y.knocked(0, 3), 1);
    }

    private static void promise7Ticks() {
        AlarmBoxes x = loopOf(11);
        x.ticks(299);
        c.due("7 to NOW", x.reading(0, 1, 299), 0);
        c.due("7 to NOW + 1", x.reading(0, 1, 300), -2);
        x.ticks(1);
        c.due("7 from 1, 300 ticks, to NOW", x.reading(0, 1, 300), 0);
        c.due("7 from 0", x.reading(0, 0, 299), -2);
        c.due("7 the last tick alone", x.reading(0, 300, 300), 0);
        c.due("7 from behind to", x.reading(0, 300, 299), -2);
        x.ticks(1);
        c.due("7 301 ticks", x.reading(0, 1, 301), -2);
        c.due("7 the last 300", x.reading(0, 2, 301), 0);
        for (int loop = 0; loop < 4; loop++) {
            c.due("7 loop " + loop, x.reading(loop, 1, 300), 0);
        }
    }

    /** 11 and 12 begin alike; 12 knocks once more 6 ticks behind, which tells them apart at every tick of 300. */
    private static void promise7EachTickCounts() {
        AlarmBoxes x = loopOf(11, 12, 311);
        x.ticks(320);
        x.pull(0);
        x.ticks(40);
        for (int from = 61; from <= 321; from++) {
            int to = Math.min(from + 299, 360);
            c.due("7 begun " + (321 - from) + " behind from", x.reading(0, from, to), 1);
        }
        c.due("8 at the first tick", x.stories(), 1);
        for (int offset = 0; offset < 294; offset++) {
            AlarmBoxes y = loopOf(12, 11);
            y.ticks(offset);
            y.pull(1);
            y.ticks(300 - offset);
            c.due("7 a quiet tick at " + (offset + 6), y.reading(0, 1, 300), 1);
            c.due("8 a quiet tick at " + (offset + 6), y.stories(), 1);
            c.due("9 a quiet tick at " + (offset + 6), y.story(0, 0, 0), 1);
        }
        for (int later = 0; later <= 230; later++) {
            AlarmBoxes y = loopOf(355, 545);
            y.ticks(later + 4);
            y.pull(0);
            y.ticks(4);
            y.pull(1);
            y.ticks(60);
            c.due("7 355 at 5, 545 at 9, " + later + " later", y.reading(0, 3, 68 + later), 2);
            c.due("8 not 545 at 3 and 355 at 11, for tick 3 was quiet, " + later + " later", y.stories(), 1);
        }
        AlarmBoxes z = loopOf(11);
        z.ticks(299);
        z.pull(0);
        z.ticks(1);
        c.due("7 begun at the last of 300", z.reading(0, 1, 300), 1);
        c.due("9 its tick", z.story(0, 0, 1), 300);
    }

    private static void promise7BoxOnceAtMost() {
        AlarmBoxes x = loopOf(11);
        x.pull(0);
        x.ticks(27);
        x.ticks(1);
        x.pull(0);
        x.ticks(60);
        c.due("7 the same box twice is no story", x.reading(0, 1, 88), -1);
        c.due("8 none", x.stories(), 0);
        c.due("7 its first run", x.reading(0, 1, 28), 1);
        c.due("7 its second run", x.reading(0, 28, 88), 1);
        c.due("9 its tick", x.story(0, 0, 1), 29);
        x.box(0, 12, 0, 0, 0, 0);
        x.pull(1);
        x.ticks(40);
        c.due("7 nor with another one", x.reading(0, 1, 128), -1);
        c.due("7 one of each", x.reading(0, 28, 128), 2);
    }

    /** n boxes, one begun in each of m ticks in a row, of which the range sees the first knocks alone. */
    private static void promise7ThreeAtMost() {
        int[] numbers = {11, 12, 13, 14, 15};
        for (int n = 1; n <= 5; n++) {
            AlarmBoxes x = new AlarmBoxes();
            for (int i = 0; i < n; i++) {
                x.box(0, numbers[i], 0, 0, 0, 0);
            }
            for (int i = 0; i < n; i++) {
                x.pull(i);
                x.ticks(1);
            }
            for (int m = 1; m <= Math.min(n, 4); m++) {
                c.due("7 " + m + " of " + n, x.reading(0, 1, m), m <= 3 ? m : -1);
                int stories = 1;
                for (int k = 0; k < m; k++) {
                    stories *= n - k;
                }
                c.due("8 " + m + " of " + n, x.stories(), m <= 3 ? stories : 0);
            }
        }
    }

    /** All ways to give so many ticks in a row to boxes, each a tick: those are the stories, in the order of the document. */
    private static List<int[]> allStories(int boxes, int ticks) {
        List<int[]> all = new ArrayList<>();
        for (int i = 0; i < Math.pow(boxes, ticks); i++) {
            int[] tickOf = new int[boxes];
            int[] story = new int[2 * ticks];
            for (int t = 1, rest = i; t <= ticks; t++, rest /= boxes) {
                tickOf[rest % boxes] = t;
            }
            int j = 0;
            for (int b = 0; b < boxes; b++) {
                if (tickOf[b] > 0) {
                    story[2 * j] = b;
                    story[2 * j + 1] = tickOf[b];
                    j++;
                }
            }
            if (j == ticks) {
                all.add(story);
            }
        }
        all.sort(java.util.Arrays::compare);
        return all;
    }

    private static AlarmBoxes begunInARow(int boxes, int ticks) {
        AlarmBoxes x = new AlarmBoxes();
        for (int i = 0; i < boxes; i++) {
            x.box(0, 111 + i % 5 + 10 * (i / 5), 0, 0, 0, 0);
        }
        for (int i = boxes - 1; i >= boxes - ticks; i--) {
            x.pull(i);
            x.ticks(1);
        }
        c.due("7 " + ticks + " of " + boxes, x.reading(0, 1, ticks), ticks);
        return x;
    }

    /** 6 * 5 * 4 = 120 stories are all kept, of 7 * 6 * 5 = 210 the first 200. */
    private static void promise8() {
        int[] due = {6, 24, 60, 120, 200, 200, 200, 200, 200, 200};
        for (int n = 3; n <= 12; n++) {
            c.due("8 three of " + n, begunInARow(n, 3).stories(), due[n - 3]);
        }
        c.due("8 two of 12", begunInARow(12, 2).stories(), 132);
        c.due("8 one of 12", begunInARow(12, 1).stories(), 12);
        AlarmBoxes x = begunInARow(12, 3);
        c.due("8 a reading that is refused", x.reading(0, 1, 4), -2);
        c.due("8 leaves the one ahead", x.stories(), 200);
        c.due("7 an empty tape", x.reading(1, 1, 3), 0);
        c.due("8 has one story", x.stories(), 1);
        x.ticks(100);
        c.due("7 the tail of three", x.reading(0, 6, 100), -1);
        c.due("8 has none", x.stories(), 0);
    }

    private static void promise9Order() {
        for (int n : new int[] {3, 6, 7, 12}) {
            List<int[]> all = allStories(n, 3);
            for (int start = 0; start < Math.min(all.size(), 200); start += 50) {
                AlarmBoxes x = begunInARow(n, 3);
                for (int i = start; i < Math.min(start + 50, Math.min(all.size(), 200)); i++) {
                    for (int k = 0; k < 6; k++) {
                        c.due("9 story(" + i + ", " + k / 2 + ", " + k % 2 + ") of " + n, x.story(i, k / 2, k % 2), all.get(i)[k]);
                    }
                    c.due("9 no fourth", x.story(i, 3, 0), -1);
                }
                c.due("9 none behind the last", x.story(Math.min(all.size(), 200), 0, 0), -1);
            }
        }
    }

    /** 21 knocks at 1 3 7, 14 16 20; from 14 on 322 knocks at 14 16 18: it can have begun at each of the three. */
    private static void promise9OrderByTicks() {
        AlarmBoxes x = loopOf(322, 21);
        x.pull(1);
        x.ticks(13);
        x.pull(0);
        x.ticks(5);
        c.due("7 two", x.reading(0, 1, 18), 2);
        c.due("8 three stories", x.stories(), 3);
        for (int i = 0; i < 3; i++) {
            c.due("9 box of story " + i, x.story(i, 0, 0), 0);
            c.due("9 tick of story " + i, x.story(i, 0, 1), 14 + 2 * i);
            c.due("9 the other tick of story " + i, x.story(i, 1, 1), 1);
        }
    }

    /** Two that begin at the same tick: however they are found, they are one story. */
    private static void promise9SameTick() {
        AlarmBoxes x = loopOf(21, 12, 113);
        x.ticks(4);
        x.pull(0);
        x.pull(1);
        x.ticks(100);
        c.due("7 two at one tick", x.reading(0, 1, 104), 2);
        c.due("8 one story", x.stories(), 1);
        c.due("9 its first box", x.story(0, 0, 0), 0);
        c.due("9 its first tick", x.story(0, 0, 1), 5);
        c.due("9 its second box", x.story(0, 1, 0), 1);
        c.due("9 its second tick", x.story(0, 1, 1), 5);
        c.due("9 no third", x.story(0, 2, 0), -1);
        AlarmBoxes y = loopOf(21, 12, 113);
        y.ticks(4);
        for (int i = 0; i < 3; i++) {
            y.pull(i);
        }
        y.ticks(100);
        c.due("7 three at one tick", y.reading(0, 1, 104), 3);
        c.due("8 one story of three", y.stories(), 1);
        for (int j = 0; j < 3; j++) {
            c.due("9 box " + j, y.story(0, j, 0), j);
            c.due("9 tick " + j, y.story(0, j, 1), 5);
        }
    }

    private static void promise10() {
        for (int n = 1; n <= 12; n++) {
            for (int m = 1; m <= Math.min(n, 3); m++) {
                List<int[]> all = allStories(n, m);
                int stories = Math.min(all.size(), 200);
                int best = -1;
                int least = 1000;
                for (int b = 0; b < n && stories >= 2; b++) {
                    int have = 0;
                    for (int[] story : all.subList(0, stories)) {
                        for (int j = 0; j < m; j++) {
                            have += story[2 * j] == b ? 1 : 0;
                        }
                    }
                    if (Math.max(have, stories - have) < least) {
                        least = Math.max(have, stories - have);
                        best = b;
                    }
                }
                c.due("10 of " + stories + " stories, " + m + " of " + n, begunInARow(n, m).ask(), best);
            }
        }
        AlarmBoxes x = loopOf(11, 12);
        x.pull(0);
        x.ticks(40);
        x.reading(0, 1, 5);
        c.due("8 two stories", x.stories(), 2);
        c.due("10 two are enough", x.ask(), 0);
        x.reading(0, 1, 40);
        c.due("8 one story", x.stories(), 1);
        c.due("10 one is not", x.ask(), -1);
        x.reading(0, 2, 40);
        c.due("10 nor is none", x.ask(), -1);
    }

    private static void promises11And12() {
        for (int i = -1; i <= 100; i++) {
            c.due("11 x " + i, new AlarmBoxes().house(i, 0), i >= 0 && i <= 99 ? 0 : -1);
            c.due("11 y " + i, new AlarmBoxes().house(99, i), i >= 0 && i <= 99 ? 0 : -1);
        }
        AlarmBoxes x = new AlarmBoxes();
        for (int i = 0; i < 12; i++) {
            c.due("12 a house that comes", x.company(0, i), -1);
            c.due("11 house " + i, x.house(i, i), i);
            c.due("12 the newest house", x.company(i % 2, i), i);
        }
        c.due("12 house 12", x.company(0, 12), -1);
        for (int i = 12; i < 20; i++) {
            c.due("12 company " + i, x.company(1, 11), i);
        }
        c.due("12 the 21st", x.company(1, 11), -1);
        c.due("31 twenty", x.count(3), 20);
    }

    private static void promise13() {
        for (int n = -1; n <= 11; n++) {
            c.due("13 pace " + n, new AlarmBoxes().pace(n, 40), n >= 1 && n <= 9);
        }
        for (int reach = -1; reach <= 200; reach++) {
            c.due("13 reach " + reach, new AlarmBoxes().pace(3, reach), reach >= 0 && reach <= 198);
        }
        AlarmBoxes x = new AlarmBoxes();
        x.house(0, 0);
        x.company(0, 0);
        x.box(0, 11, 0, 40, 0, 0);
        x.box(0, 12, 0, 40, 1, 1);
        c.due("13 40 at first: 40", x.covered(0), 1);
        c.due("13 40 at first: 41", x.covered(1), 0);
        Check.cards(x, HEAD + "1;");
        x.alarm(0);
        c.due("13 3 at first", x.there(0), 120);
    }

    private static void promise14() {
        for (int sign = 0; sign <= 255; sign++) {
            AlarmBoxes x = new AlarmBoxes();
            c.due("14 sign " + sign, x.feed(sign, 0, (long) sign << 56), sign == 10 || sign >= 32 && sign <= 126 ? 2 : 0);
        }
        AlarmBoxes x = new AlarmBoxes();
        long blanks = Check.bytes("        ", 0);
        for (int i = 1; i <= 41; i++) {
            c.due("14 24 more", x.feed(blanks, blanks, blanks), 24 * i);
        }
        c.due("14 984 and 15", x.feed(blanks, Check.bytes("       ", 0), 0), 999);
        c.due("14 what is left out takes no room", x.feed(-1, 0x0101010101010101L, 0), 999);
        c.due("14 the 1000th, not the 1001st", x.feed(Check.bytes("x~", 0), 0, 0), 1000);
        c.due("14 no more", x.feed(Check.bytes("~", 0), 0, 0), 1000);
        c.due("15 the 1000th sign is x", x.cards(), 1 + 16 * 999);
        c.due("14 empty again", x.feed(blanks, 0, 0), 8);
    }

    /** Each known word with one letter changed, cut off or put behind it is none of the words that can stand there. */
    private static void promise15Words() {
        String[] words = {"send", "engines", "ladders", "when", "and", "or", "not", "box", "ward", "loop", "hour", "call", "out", "false"};
        String[] texts = {"%s 1 engines 0 ladders when 1;", "send 1 %s 0 ladders when 1;", "send 1 engines 0 %s when 1;",
            "send 1 engines 0 ladders %s 1;", HEAD + "1 %s 1;", HEAD + "1 %s 1;", HEAD + "%s 1;", HEAD + "%s;", HEAD + "%s;",
            HEAD + "%s;", HEAD + "%s;", HEAD + "%s;", HEAD + "%s;", HEAD + "%s;"};
        for (int i = 0; i < words.length; i++) {
            String word = words[i];
            int place = texts[i].indexOf('%');
            c.fault(texts[i].replace("%s", word), 0, 0);
            c.fault(texts[i].replace("%s", word + "z"), 1, place);
            c.fault(texts[i].replace("%s", word + "a"), 1, place);
            c.fault(texts[i].replace("%s", word.substring(1)), 1, place);
            c.fault(texts[i].replace("%s", word.substring(0, word.length() - 1)), 1, place);
            for (int k = 0; k < word.length(); k++) {
                String other = word.substring(0, k) + (word.charAt(k) == 'z' ? 'y' : 'z') + word.substring(k + 1);
                c.fault(texts[i].replace("%s", other), 1, place);
                String capital = word.substring(0, k) + (char) (word.charAt(k) - 32) + word.substring(k + 1);
                c.fault(texts[i].replace("%s", capital), 1, place + (k == 0 || isWordThere(word.substring(0, k), i) ? k : 0));
            }
        }
        c.fault(HEAD + "aaaaaaaa;", 1, 30);
        c.fault(HEAD + "aaaaaaaaa;", 1, 30);
        c.fault("sendsendsend", 1, 0);
    }

    /** Whether the start of a word is a word that can stand in its place, so that the fault is at the sign behind it. */
    private static boolean isWordThere(String start, int i) {
        return start.equals("or") && i == 5;
    }

    private static void promise15Numbers() {
        for (int n = 0; n <= 10000; n = n < 12 ? n + 1 : n == 12 ? 99 : n * 10 + n % 10) {
            boolean isNumber = n <= 9999;
            c.fault("send " + n + " engines 0 ladders when 1;", n <= 9 ? 0 : isNumber ? 4 : 1, 5);
            c.fault("send 0 engines " + n + " ladders when 1;", n <= 9 ? 0 : isNumber ? 4 : 1, 15);
            c.fault(HEAD + n + ";", isNumber ? 0 : 1, 30);
        }
        c.fault("send 10000 engines 0 ladders when 1;", 1, 5);
        c.fault("send 0009 engines 0 ladders when 9999;", 0, 0);
        c.fault("send 00009 engines 0 ladders when 9999;", 1, 5);
        c.fault(HEAD + "0000;", 0, 0);
        c.fault(HEAD + "00000;", 1, 30);
        c.fault(HEAD + "10000;", 1, 30);
        c.fault(HEAD + "1and 2or 3;", 0, 0);
        c.fault(HEAD + "1 and2or3;", 0, 0);
        c.fault(HEAD + "box1;", 1, 33);
        c.fault("send 10engines", 4, 5);
        c.fault("send 9engines 9ladders when1;", 0, 0);
    }

    private static void promise15Signs() {
        String known = "()<=+-;";
        for (char sign = 33; sign <= 126; sign++) {
            if (!Character.isDigit(sign) && !Character.isLowerCase(sign) && known.indexOf(sign) < 0) {
                c.fault(HEAD + "1" + sign + "1;", 1, 31);
                c.fault("" + sign, 1, 0);
            }
        }
        c.fault("\n\n  send 1 engines 0 ladders when\n(1)\n+\n1\n<\n1 ; \n", 0, 0);
        c.fault("send1engines0ladders when(1)+1-1=1;send1engines0ladders when 1<1;", 0, 0);
        c.fault("", 0, 0);
        c.fault(" \n ", 0, 0);
        c.fault(HEAD + "1;  ", 0, 0);
        c.fault(HEAD + "1  ", 1, 33);
        c.fault(HEAD, 1, 30);
        c.fault(HEAD + "1 <  ", 1, 35);
        c.fault(HEAD + "1 < 1 = 1;", 1, 36);
        c.fault(HEAD + "1 = 1 = 1;", 1, 36);
    }

    /** The 24th line is still taken; of the 25th the word send is one too many, anything else can't stand there. */
    private static void promise15Lines() {
        StringBuilder text = new StringBuilder();
        for (int i = 1; i <= 24; i++) {
            text.append("send 0engines 0ladders when 1;");
            AlarmBoxes x = new AlarmBoxes();
            c.due("15 " + i + " lines", Check.cards(x, text.toString()), 0);
            c.due("31 " + i + " lines", x.count(8), i);
        }
        c.fault(text + "\n", 0, 0);
        c.fault(text + "send 0engines 0ladders when 1;", 5, 720);
        c.fault(text + " send", 5, 721);
        c.fault(text + "sends", 1, 720);
        c.fault(text + "not", 1, 720);
        c.fault(text + "5", 1, 720);
        c.fault(text + "#", 1, 720);
    }

    /** What was read ahead, or went wrong, leaves nothing behind in what is read next. */
    private static void promise15ReadAnew() {
        AlarmBoxes x = new AlarmBoxes();
        x.house(0, 0);
        for (int i = 0; i < 9; i++) {
            x.company(0, 0);
        }
        x.box(0, 11, 0, 0, 0, 0);
        for (int i = 0; i < 8; i++) {
            int engines = 1 + i % 4;
            c.due("15 a good text", Check.cards(x, "send 9 engines 0 ladders when 0; send " + engines + " engines 0 ladders when 1;"), 0);
            c.due("31 two lines", x.count(8), 2);
            c.due("15 a bad one", Check.cards(x, "send 9 engines 0 ladders when 1; send 9 engines 0 ladders when"), 1 + 16 * 62);
            c.due("31 two lines still", x.count(8), 2);
            int alarm = x.alarm(0);
            c.due("16 by the good one", x.count(4), engines);
            x.over(alarm, true);
        }
        c.due("15 no lines", x.cards(), 0);
        c.due("31 no lines", x.count(8), 0);
        x.alarm(0);
        c.due("16 nothing", x.count(4), 0);
    }

    /** A sum of nearly 1,000 signs tells by its last PART alone, however often such are read; and the deepest sentence. */
    private static void promise15LongAndDeep() {
        AlarmBoxes x = new AlarmBoxes();
        x.house(0, 0);
        x.company(0, 0);
        x.box(0, 11, 0, 0, 0, 0);
        StringBuilder sum = new StringBuilder(HEAD + "0");
        while (sum.length() < 994) {
            sum.append("+1-1");
        }
        for (int i = 0; i < 6; i++) {
            String end = i % 2 == 0 ? "+1" : "+0";
            c.due("15 a sum of " + (sum.length() + 3) + " signs", Check.cards(x, sum + end + ";"), 0);
            int alarm = x.alarm(0);
            c.due("16 its last PART tells", x.count(4), i % 2 == 0 ? 1 : 0);
            x.over(alarm, true);
        }
        for (int inmost = 0; inmost <= 1; inmost++) {
            String deep = "" + inmost;
            for (int i = 0; i < 4; i++) {
                deep = "1 and 0 = 0 + (" + deep + ")";
            }
            c.fault(HEAD + "(" + deep + ");", 5, 31 + deep.indexOf(inmost + ")"));
            c.due("15 " + deep, Check.cards(x, HEAD + deep + ";"), 0);
            x.alarm(0);
            c.due("16 turned four times: " + inmost, x.count(4), inmost);
        }
        c.fault(HEAD + "not(not(1+2<3 and 1));", 0, 0);
        c.fault(HEAD + "not(not(1+(2<3 and 1)));", 5, 41);
        c.fault(HEAD + "not(not(1+not 2));", 5, 44);
        c.fault(HEAD + "not(not(not not 2));", 5, 42);
        c.fault(HEAD + "(((( 2 ))))+not not not not 2;", 0, 0);
        c.fault(HEAD + "(((((", 1, 35);
        c.fault(HEAD + "((((( )", 1, 36);
        c.fault(HEAD + "((((( engines", 1, 36);
        c.fault(HEAD + "(((((box", 5, 35);
        c.fault(HEAD + "(((((10000", 1, 35);
    }

    private static void promise16Hour() {
        int[] ticks = {0, 3599, 3600, 7199, 7200, 23 * 3600 - 1, 23 * 3600, DAY - 1, DAY, DAY + 3599, DAY + 3600, 999999};
        for (int tick : ticks) {
            AlarmBoxes x = new AlarmBoxes();
            x.house(0, 0);
            x.company(0, 0);
            x.box(0, 11, 0, 0, 0, 0);
            Check.pass(x, tick);
            Check.cards(x, HEAD + "hour = " + tick / 3600 % 24 + ";");
            x.alarm(0);
            c.due("16 the hour at " + tick, x.count(4), 1);
        }
    }

    /** Of 24 lines each can be the first that counts; if none does nothing is sent. */
    private static void promise16Lines() {
        for (int first = 0; first <= 24; first++) {
            AlarmBoxes x = new AlarmBoxes();
            x.house(0, 0);
            for (int i = 0; i < 20; i++) {
                x.company(i % 2, 0);
            }
            x.box(0, 11, 0, 0, 0, 0);
            StringBuilder text = new StringBuilder();
            for (int i = 0; i < 24; i++) {
                text.append("send ").append(1 + i % 9).append("engines ").append(1 + i / 9).append("ladders when ").append(i < first ? 0 : 1).append(";");
            }
            c.due("15 24 lines", Check.cards(x, text.toString()), 0);
            x.alarm(0);
            c.due("16 line " + first + " counts", x.count(4), first == 24 ? 0 : 1 + first % 9 + 1 + first / 9);
        }
    }

    /** The longest way there is, 198, at each pace; the company there goes last, yet it goes. */
    private static void promise16Far() {
        for (int pace = 1; pace <= 9; pace++) {
            AlarmBoxes x = new AlarmBoxes();
            x.pace(pace, 40);
            x.house(99, 99);
            x.house(0, 0);
            x.company(0, 0);
            x.company(0, 1);
            x.box(0, 11, 0, 0, 0, 0);
            Check.cards(x, "send 9 engines 0 ladders when 1;");
            x.ticks(7);
            x.alarm(0);
            c.due("18 the near one first", x.sent(0, 0), 1);
            c.due("18 the far one", x.sent(0, 1), 0);
            c.due("21 way 0", x.there(1), 7);
            c.due("21 way 198", x.there(0), 7 + 198 * pace);
        }
    }

    private static void promises16To18Most() {
        AlarmBoxes x = new AlarmBoxes();
        x.house(0, 0);
        for (int i = 0; i < 20; i++) {
            x.company(i % 2, 0);
        }
        x.box(0, 11, 0, 0, 0, 0);
        Check.cards(x, "send 9 engines 9 ladders when call < 3; send 9 engines 0 ladders when 1;");
        x.alarm(0);
        for (int i = 0; i < 18; i++) {
            c.due("18 nine of each: " + i, x.sent(0, i), i < 9 ? 2 * i : 2 * (i - 9) + 1);
        }
        c.due("18 no more than nine", x.sent(0, 18), -1);
        c.due("17 the second call", x.again(0), 2);
        c.due("18 the last engine", x.sent(0, 18), 18);
        c.due("18 the last ladder", x.sent(0, 19), 19);
        c.due("18 none behind the 20", x.sent(0, 20), -1);
        c.due("17 the third call, with none in", x.again(0), 3);
        c.due("18 nothing was sent", x.sent(0, 20), -1);
        c.due("17 no fourth", x.again(0), -1);
        c.due("31 all are sent", x.count(4), 20);
        for (int i = 1; i < 100; i++) {
            c.due("16 alarm " + i, x.alarm(0), i);
        }
        c.due("16 the 101st", x.alarm(0), -1);
        c.due("19 over", x.over(0, true), true);
        c.due("16 one that is over makes no room", x.alarm(0), -1);
        c.due("31 all are in", x.count(4), 0);
        c.due("17 the last one can be called", x.again(99), 2);
        c.due("31 18 are sent", x.count(4), 18);
    }

    private static void promises19To21() {
        AlarmBoxes x = new AlarmBoxes();
        x.house(50, 50);
        x.company(0, 0);
        x.company(1, 0);
        x.box(0, 11, 0, 0, 0, 0);
        Check.cards(x, "send 1 engines 1 ladders when 1;");
        x.alarm(0);
        c.due("20 sent", x.at(0), -1);
        c.due("21 there", x.there(0), 300);
        x.ticks(300);
        c.due("20 there is not in", x.at(0), -1);
        c.due("21 there, and sent still", x.there(0), 300);
        x.ticks(1);
        c.due("21 the tick does not change", x.there(1), 300);
        c.due("19 over", x.over(0, false), true);
        c.due("20 in at once", x.at(1), 0);
        c.due("21 not sent", x.there(1), -1);
        x.alarm(0);
        c.due("21 under way", x.there(1), 601);
        c.due("19 over while they are under way", x.over(1, true), true);
        c.due("20 in at once", x.at(1), 0);
        c.due("18 told still", x.sent(1, 1), 1);
    }

    /** Reach is taken to the last: each way from 0 to 198, with a reach one less, as much, one more. */
    private static void promise22() {
        for (int way = 0; way <= 198; way++) {
            AlarmBoxes x = new AlarmBoxes();
            x.house(0, 0);
            x.company(0, 0);
            x.box(0, 11, 0, way / 2, way - way / 2, 3);
            for (int reach = Math.max(way - 1, 0); reach <= Math.min(way + 1, 198); reach++) {
                x.pace(3, reach);
                c.due("22 way " + way + ", reach " + reach, x.covered(3), way <= reach ? 1 : 0);
                c.due("23 way " + way + ", reach " + reach, x.moves(), way <= reach ? 0 : -1);
            }
        }
        for (int ward = -1; ward <= 8; ward++) {
            AlarmBoxes x = new AlarmBoxes();
            x.box(0, 11, 0, 0, 0, ward);
            c.due("22 ward " + ward, x.covered(ward), ward >= 0 && ward <= 7 ? 0 : -1);
            c.due("22 a ward of no boxes", x.covered(ward == 0 ? 1 : 0), -1);
        }
    }

    /** So many engines at home, so many places far from each other that want one: 0, 1, 2 moves, three are too many. */
    private static void promises23To25() {
        for (int far = 0; far <= 4; far++) {
            AlarmBoxes x = new AlarmBoxes();
            x.pace(3, 5);
            x.house(0, 0);
            x.box(0, 11, 0, 0, 0, 0);
            for (int i = 0; i < 5; i++) {
                x.company(0, 0);
            }
            for (int i = 1; i <= far; i++) {
                x.house(20 * i, 0);
                x.box(0, 11 + i, 0, 20 * i, 0, i);
            }
            int due = far <= 2 ? far : -1;
            c.due("23 " + far + " far places", x.moves(), due);
            for (int i = 0; i < 4; i++) {
                c.due("24 company " + i, x.move(i, 0), i < due ? i : -1);
                c.due("24 house " + i, x.move(i, 1), i < due ? i + 1 : -1);
            }
            c.due("25 " + far + " far places", x.done(), due);
            for (int i = 0; i < 5; i++) {
                c.due("25 company " + i + " is at", x.at(i), i < due ? i + 1 : 0);
            }
            c.due("23 behind it", x.moves(), far <= 2 ? 0 : -1);
        }
    }

    private static void promises26And27() {
        AlarmBoxes x = new AlarmBoxes();
        x.box(0, 11, 0, 0, 0, 0);
        Check.pass(x, DAY - 1);
        x.alarm(0);
        x.over(0, false);
        c.due("26 on the last tick of a day", x.word(0, true), true);
        c.due("27 day 0", x.known(0, 0), 1);
        c.due("27 day 1 has not come", x.known(0, 1), -1);
        x.ticks(1);
        c.due("27 day 1 has come", x.known(0, 1), 1);
        c.due("26 on the first tick of a day", x.word(0, false), true);
        c.due("27 told on day 1: day 0", x.known(0, 0), 1);
        c.due("27 told on day 1: day 1", x.known(0, 1), 0);
        x.alarm(0);
        c.due("27 raised on day 1: day 0", x.known(1, 0), -1);
        c.due("27 raised on day 1: day 1", x.known(1, 1), 2);
        for (int i = 2; i < 199; i++) {
            x.word(0, i % 2 == 0);
        }
        c.due("31 199", x.count(7), 199);
        c.due("26 the 200th", x.word(0, true), true);
        c.due("26 the 201st", x.word(0, false), false);
        c.due("27 by the 200th", x.known(0, 1), 1);
        c.due("19 the word of one that is over is not counted", x.over(1, false), true);
        c.due("27 it is known", x.known(1, 1), 0);
        c.due("26 yet no later word", x.word(1, true), false);
        c.due("31 200", x.count(7), 200);
    }

    private static void promises28And29() {
        for (boolean isTrue : new boolean[] {false, true}) {
            AlarmBoxes x = new AlarmBoxes();
            x.box(0, 11, 0, 0, 0, 7);
            for (int n = 1; n <= 100; n++) {
                x.alarm(0);
                c.due("28 raised, no word", x.rate(0, 0), 1000 * (isTrue ? 1 : n) / (n + 1));
                x.over(n - 1, isTrue);
                c.due("28 " + n + " words", x.rate(0, 0), 1000 * (isTrue ? 1 : n + 1) / (n + 2));
            }
            c.due("28 of a hundred", x.rate(0, 0), isTrue ? 9 : 990);
            c.due("29 the only one is the worst", x.worst(7), 0);
            x.box(0, 12, 0, 0, 0, 7);
            c.due("29 half is worse than true, not than false", x.worst(7), isTrue ? 1 : 0);
        }
        for (int ward = -1; ward <= 8; ward++) {
            AlarmBoxes x = new AlarmBoxes();
            x.box(0, 11, 0, 0, 0, ward);
            c.due("29 ward " + ward, x.worst(ward), ward >= 0 && ward <= 7 ? 0 : -1);
        }
        AlarmBoxes x = new AlarmBoxes();
        x.box(0, 11, 0, 0, 0, 0);
        x.ticks(5000);
        for (int day = 0; day <= 11; day++) {
            c.due("28 day " + day, x.rate(0, day), 500);
            c.due("28 day " + (day + 1) + " has not come", x.rate(0, day + 1), -1);
            Check.pass(x, Math.min(DAY, 999999 - x.count(0)));
        }
    }

    private static void promise30() {
        AlarmBoxes x = new AlarmBoxes();
        x.box(0, 11, 0, 0, 0, 0);
        x.box(3, 555, 1, 99, 99, 7);
        int[][] due = {{0, 11, 0, 0, 0, 0, -1, 0, 2}, {3, 555, 1, 7, 0, 0, -1, 0, 15}};
        for (int box = -1; box <= 2; box++) {
            for (int what = -1; what <= 9; what++) {
                boolean is = box >= 0 && box <= 1 && what >= 0 && what <= 8;
                c.due("30 look(" + box + ", " + what + ")", Check.look(x, box, what), is ? due[box][what] : Check.THROWS);
            }
        }
        x.pull(0);
        c.due("30 pulled: its begin", Check.look(x, 0, 6), 1);
        x.ticks(1);
        c.due("30 begun: its begin", Check.look(x, 0, 6), 1);
        x.ticks(100);
        c.due("30 long over: its latest begin", Check.look(x, 0, 6), 1);
    }
}
