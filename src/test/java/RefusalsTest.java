import java.util.ArrayList;
import java.util.List;

/**
 * Each call that the document refuses, promise by promise: the answer it gives, and that nothing has changed behind it.
 * A city is built twice, the call is made in one of them, and what both tell of themselves and how they go on is compared.
 */
public final class RefusalsTest {
    private interface City { AlarmBoxes make(); }
    private interface Call { long on(AlarmBoxes x); }

    private static final Check c = new Check();
    private static final int MIN = Integer.MIN_VALUE;
    private static final int MAX = Integer.MAX_VALUE;

    private static City city;
    private static List<Long> untouched;

    public static void main(String[] args) {
        in(RefusalsTest::busy);
        ticksAndBoxes();
        pullsAndCuts();
        tapeAndReadings();
        housesAndCompanies();
        alarms();
        cover();
        book();
        looksAndCounts();
        in(RefusalsTest::full);
        whatIsFull();
        in(RefusalsTest::fiveThousandAheadOfTheEnd);
        refused("2 to 1000000", -1, x -> x.ticks(5000));
        in(RefusalsTest::late);
        atTheEndOfTime();
        in(RefusalsTest::hundredAlarms);
        refused("16 the 101st alarm", -1, x -> x.alarm(0));
        in(RefusalsTest::twoHundredWords);
        refused("26 the 201st word", 0, x -> bit(x.word(0, true)));
        in(RefusalsTest::tooFarToCover);
        noMoves();
        in(AlarmBoxes::new);
        inAnEmptyCity();
        c.end();
    }

    private static void in(City made) {
        city = made;
        untouched = trace(city.make());
        c.due("the same calls tell the same", trace(city.make()).equals(untouched), true);
    }

    private static void refused(String name, long due, Call call) {
        AlarmBoxes x = city.make();
        c.due(name, call.on(x), due);
        List<Long> after = trace(x);
        int i = 0;
        while (i < after.size() && i < untouched.size() && after.get(i).equals(untouched.get(i))) {
            i++;
        }
        boolean same = i == after.size() && i == untouched.size();
        c.due(name + ": changes nothing" + (same ? "" : " (but the answer " + i + " of the trace)"), same, true);
    }

    private static long bit(boolean yes) {
        return yes ? 1 : 0;
    }

    // ---- the cities

    /**
     * Boxes 0 and 4 go on, 1 waits, 3 and 4 are dumb; alarm 0 is over and told of, 1 was called thrice, 2 is open, 3 is
     * over; engines 3 and 5 and ladder 6 are in, all others are sent; one move would cover all.
     */
    private static AlarmBoxes busy() {
        AlarmBoxes x = new AlarmBoxes();
        x.box(0, 21, 0, 10, 10, 0);
        x.box(0, 12, 1, 20, 10, 0);
        x.box(0, 22, 0, 10, 20, 1);
        x.box(1, 11, 1, 60, 60, 1);
        x.box(1, 12, 0, 55, 50, 2);
        x.box(3, 31, 1, 80, 80, 5);
        x.house(10, 10);
        x.house(50, 50);
        x.house(70, 80);
        x.house(12, 90);
        int[] kinds = {0, 0, 1, 0, 1, 0, 1};
        int[] houses = {0, 1, 0, 3, 1, 0, 3};
        for (int i = 0; i < 7; i++) {
            x.company(kinds[i], houses[i]);
        }
        x.pace(4, 50);
        Check.cards(x, "send 1 engines 0 ladders when call = 1; send 0 engines 1 ladders when false < 700;");
        x.alarm(0);
        x.over(0, true);
        x.alarm(0);
        x.again(1);
        x.again(1);
        Check.pass(x, 90000);
        x.word(0, false);
        x.alarm(3);
        x.alarm(2);
        x.over(3, false);
        x.pull(0);
        x.ticks(3);
        x.pull(1);
        x.pull(4);
        x.cut(1, 0, true);
        x.cut(1, 2, true);
        x.reading(0, 90001, 90003);
        Check.feed(x, "send 2 engines 1 ladders when 1;");
        return x;
    }

    /** All 32 boxes (12 in loops 0 and 1), 12 houses, 20 companies, 24 lines of cards, 1,000 signs. */
    private static AlarmBoxes full() {
        AlarmBoxes x = new AlarmBoxes();
        for (int i = 0; i < 32; i++) {
            x.box(i / 12, 111 + i % 12 % 5 + 10 * (i % 12 / 5), i % 2, i, 2 * i, i % 8);
        }
        for (int i = 0; i < 12; i++) {
            x.house(5 * i, 4 * i);
        }
        for (int i = 0; i < 20; i++) {
            x.company(i % 2, i % 12);
        }
        StringBuilder lines = new StringBuilder();
        for (int i = 1; i <= 24; i++) {
            lines.append("send 1engines 2ladders when ").append(i).append(";");
        }
        Check.cards(x, lines.toString());
        Check.feed(x, lines + " ".repeat(1000 - lines.length()));
        return x;
    }

    private static AlarmBoxes fiveThousandAheadOfTheEnd() {
        AlarmBoxes x = new AlarmBoxes();
        x.box(0, 11, 0, 1, 1, 0);
        Check.pass(x, 995000);
        x.pull(0);
        return x;
    }

    private static AlarmBoxes late() {
        AlarmBoxes x = new AlarmBoxes();
        x.box(0, 11, 0, 1, 1, 0);
        x.box(0, 12, 1, 2, 2, 0);
        Check.pass(x, 999999);
        x.pull(0);
        x.pull(1);
        return x;
    }

    private static AlarmBoxes hundredAlarms() {
        AlarmBoxes x = new AlarmBoxes();
        x.box(0, 11, 0, 1, 1, 0);
        x.house(1, 1);
        x.company(0, 0);
        for (int i = 0; i < 100; i++) {
            x.alarm(0);
        }
        Check.cards(x, "send 1 engines 0 ladders when 1;");
        return x;
    }

    private static AlarmBoxes twoHundredWords() {
        AlarmBoxes x = new AlarmBoxes();
        x.box(0, 11, 0, 1, 1, 0);
        x.alarm(0);
        x.over(0, true);
        for (int i = 0; i < 200; i++) {
            x.word(0, i % 2 == 0);
        }
        return x;
    }

    /** Three places and one engine: two moves are not enough, though one could be made. */
    private static AlarmBoxes tooFarToCover() {
        AlarmBoxes x = new AlarmBoxes();
        x.pace(3, 5);
        for (int i = 0; i < 3; i++) {
            x.house(40 * i, 0);
            x.box(0, 11 + i, 0, 40 * i, 1, i);
        }
        x.company(0, 0);
        return x;
    }

    // ---- what a city tells of itself, and how it goes on

    private static List<Long> trace(AlarmBoxes x) {
        List<Long> told = new ArrayList<>();
        tellStand(x, told);
        tellReading(x, told);
        tellBook(x, told);
        goOnWithSending(x, told);
        goOnWithTime(x, told);
        return told;
    }

    private static void tell(List<Long> told, long... answers) {
        for (long answer : answers) {
            told.add(answer);
        }
    }

    private static void tellStand(AlarmBoxes x, List<Long> told) {
        for (int what = 0; what <= 12; what++) {
            tell(told, x.count(what));
        }
        for (int box = 0; box < 6; box++) {
            tell(told, Check.look(x, box, 4), Check.look(x, box, 5), Check.look(x, box, 6));
        }
        int last = x.count(1) - 1;
        for (int what = 0; what <= 8; what++) {
            tell(told, Check.look(x, last, what));
        }
        for (int company = 0; company < 6; company++) {
            tell(told, x.at(company), x.there(company));
        }
        for (int ward = 0; ward < 8; ward += 2) {
            tell(told, x.covered(ward), x.worst(ward));
        }
        tell(told, x.moves(), x.move(0, 0), x.move(0, 1), x.move(1, 0), x.move(1, 1));
    }

    private static void tellReading(AlarmBoxes x, List<Long> told) {
        tell(told, x.stories(), x.ask());
        for (int i = 0; i < 3; i++) {
            tell(told, x.story(i, 0, 0), x.story(i, 0, 1));
        }
        for (int back = 0; back < 5; back++) {
            tell(told, x.knocked(0, x.count(0) - back), x.knocked(1, x.count(0) - back));
        }
    }

    private static void tellBook(AlarmBoxes x, List<Long> told) {
        for (int alarm = 0; alarm < 4; alarm++) {
            tell(told, x.known(alarm, 0), x.known(alarm, 1), x.sent(alarm, 0), x.sent(alarm, 1));
        }
        tell(told, x.rate(0, 0), x.rate(0, 1), x.rate(2, 1));
    }

    /** The cards that stand send by call 1 and 2, those on the tape of letters by call 3; the times tell the pace. */
    private static void goOnWithSending(AlarmBoxes x, List<Long> told) {
        int alarm = x.alarm(x.count(1) > 2 ? 2 : 0);
        tell(told, alarm, x.again(alarm), x.cards(), x.count(8), x.again(alarm));
        for (int i = 0; i < 5; i++) {
            tell(told, x.sent(alarm, i), x.there(x.sent(alarm, i)));
        }
        tell(told, bit(x.over(alarm, true)), bit(x.word(alarm, false)), x.done(), x.at(0), x.at(1));
    }

    private static void goOnWithTime(AlarmBoxes x, List<Long> told) {
        tell(told, x.ticks(2), x.knocked(0, x.count(0)), bit(x.cut(1, 0, false)));
        for (int i = 0; i < 6; i++) {
            tell(told, x.ticks(7), x.count(10), x.count(11), x.knocked(0, x.count(0)), x.knocked(1, x.count(0)));
        }
        tell(told, x.ticks(100), Check.look(x, 1, 6), x.reading(0, x.count(0) - 140, x.count(0)), x.stories());
        tell(told, bit(x.pull(0)), bit(x.pull(1)), bit(x.pull(2)), x.box(3, 55, 0, 3, 3, 3), x.house(4, 4), x.company(0, 0));
    }

    // ---- what is refused

    private static void ticksAndBoxes() {
        for (int n : new int[] {-1, 5001, MIN, MAX}) {
            refused("2 ticks(" + n + ")", -1, x -> x.ticks(n));
        }
        for (int loop : new int[] {-1, 4, MIN, MAX}) {
            refused("3 loop " + loop, -1, x -> x.box(loop, 11, 0, 0, 0, 0));
        }
        int[] numbers = {1, 5, 10, 16, 56, 61, 110, 116, 161, 511 + 100, 1111, -11, 0, MIN, MAX};
        for (int number : numbers) {
            refused("3 number " + number, -1, x -> x.box(2, number, 0, 0, 0, 0));
        }
        for (int kind : new int[] {-1, 2, MIN, MAX}) {
            refused("3 kind " + kind, -1, x -> x.box(2, 11, kind, 0, 0, 0));
        }
        for (int place : new int[] {-1, 100, MIN, MAX}) {
            refused("3 x " + place, -1, x -> x.box(2, 11, 0, place, 0, 0));
            refused("3 y " + place, -1, x -> x.box(2, 11, 0, 0, place, 0));
        }
        for (int ward : new int[] {-1, 8, MIN, MAX}) {
            refused("3 ward " + ward, -1, x -> x.box(2, 11, 0, 0, 0, ward));
        }
        refused("3 a number that is told in the loop", -1, x -> x.box(0, 22, 1, 9, 9, 7));
    }

    private static void pullsAndCuts() {
        for (int box : new int[] {-1, 6, 32, MIN, MAX}) {
            refused("4 pull(" + box + ")", 0, x -> bit(x.pull(box)));
        }
        refused("4 it goes on", 0, x -> bit(x.pull(0)));
        refused("4 it waits", 0, x -> bit(x.pull(1)));
        refused("4 it was pulled just now", 0, x -> bit(x.pull(4)));
        for (boolean yes : new boolean[] {true, false}) {
            for (int loop : new int[] {-1, 4, MIN, MAX}) {
                refused("5 loop " + loop, 0, x -> bit(x.cut(loop, 0, yes)));
            }
            for (int wire : new int[] {-1, 3, MIN, MAX}) {
                refused("5 wire " + wire, 0, x -> bit(x.cut(1, wire, yes)));
            }
            refused("5 a loop of no boxes has no wire 1", 0, x -> bit(x.cut(2, 1, yes)));
        }
    }

    private static void tapeAndReadings() {
        for (int loop : new int[] {-1, 4, MIN, MAX}) {
            refused("6 loop " + loop, -1, x -> x.knocked(loop, 90001));
            refused("7 loop " + loop, -2, x -> x.reading(loop, 90001, 90003));
        }
        for (int tick : new int[] {0, -1, 90004, MIN, MAX}) {
            refused("6 tick " + tick, -1, x -> x.knocked(0, tick));
            refused("7 to " + tick, -2, x -> x.reading(0, 89900, tick));
            refused("7 from " + tick, -2, x -> x.reading(0, tick, 90003));
        }
        refused("7 301 ticks", -2, x -> x.reading(0, 89703, 90003));
        refused("7 no ticks", -2, x -> x.reading(0, 90003, 90002));
        refused("7 from 0", -2, x -> x.reading(0, 0, 100));
        for (int i : new int[] {-1, 2, 200, MIN, MAX}) {
            refused("9 story " + i, -1, x -> x.story(i, 0, 0));
        }
        for (int j : new int[] {-1, 1, 3, MIN, MAX}) {
            refused("9 beginning " + j, -1, x -> x.story(0, j, 0));
        }
        for (int what : new int[] {-1, 2, MIN, MAX}) {
            refused("9 what " + what, -1, x -> x.story(0, 0, what));
        }
    }

    private static void housesAndCompanies() {
        for (int place : new int[] {-1, 100, MIN, MAX}) {
            refused("11 x " + place, -1, x -> x.house(place, 0));
            refused("11 y " + place, -1, x -> x.house(0, place));
        }
        for (int kind : new int[] {-1, 2, MIN, MAX}) {
            refused("12 kind " + kind, -1, x -> x.company(kind, 0));
        }
        for (int house : new int[] {-1, 4, 12, MIN, MAX}) {
            refused("12 house " + house, -1, x -> x.company(0, house));
        }
        for (int pace : new int[] {0, -1, 10, MIN, MAX}) {
            refused("13 pace " + pace, 0, x -> bit(x.pace(pace, 198)));
        }
        for (int reach : new int[] {-1, 199, MIN, MAX}) {
            refused("13 reach " + reach, 0, x -> bit(x.pace(9, reach)));
        }
        refused("14 signs that are left out", 32, x -> x.feed(0x7F1F0B09000D80FFL, -1, MIN));
    }

    private static void alarms() {
        for (int box : new int[] {-1, 6, 32, MIN, MAX}) {
            refused("16 box " + box, -1, x -> x.alarm(box));
        }
        for (int alarm : new int[] {-1, 4, 100, MIN, MAX}) {
            refused("17 alarm " + alarm, -1, x -> x.again(alarm));
            refused("18 alarm " + alarm, -1, x -> x.sent(alarm, 0));
            refused("19 alarm " + alarm, 0, x -> bit(x.over(alarm, true)));
        }
        refused("17 it is over", -1, x -> x.again(0));
        refused("17 three were", -1, x -> x.again(1));
        for (int i : new int[] {-1, 1, 20, MIN, MAX}) {
            refused("18 company " + i, -1, x -> x.sent(2, i));
        }
        refused("19 it is over, as true", 0, x -> bit(x.over(0, false)));
        refused("19 it is over, as false", 0, x -> bit(x.over(3, true)));
        for (int company : new int[] {-1, 7, 20, MIN, MAX}) {
            refused("20 company " + company, -1, x -> x.at(company));
            refused("21 company " + company, -1, x -> x.there(company));
        }
        refused("20 it is sent", -1, x -> x.at(2));
        refused("21 it is in", -1, x -> x.there(3));
    }

    private static void cover() {
        for (int ward : new int[] {-1, 8, 3, 7, MIN, MAX}) {
            refused("22 ward " + ward, -1, x -> x.covered(ward));
        }
        for (int i : new int[] {-1, 1, 2, 20, MIN, MAX}) {
            refused("24 move " + i, -1, x -> x.move(i, 0));
        }
        for (int what : new int[] {-1, 2, MIN, MAX}) {
            refused("24 what " + what, -1, x -> x.move(0, what));
        }
    }

    private static void book() {
        for (int alarm : new int[] {-1, 4, 100, MIN, MAX}) {
            refused("26 alarm " + alarm, 0, x -> bit(x.word(alarm, true)));
            refused("27 alarm " + alarm, -1, x -> x.known(alarm, 1));
        }
        refused("26 it is not over", 0, x -> bit(x.word(1, true)));
        for (int day : new int[] {-1, 2, MIN, MAX}) {
            refused("27 day " + day, -1, x -> x.known(0, day));
            refused("28 day " + day, -1, x -> x.rate(0, day));
        }
        refused("27 it was not raised by then", -1, x -> x.known(2, 0));
        for (int box : new int[] {-1, 6, 32, MIN, MAX}) {
            refused("28 box " + box, -1, x -> x.rate(box, 1));
        }
        for (int ward : new int[] {-1, 8, 3, 7, MIN, MAX}) {
            refused("29 ward " + ward, -1, x -> x.worst(ward));
        }
    }

    private static void looksAndCounts() {
        for (int box : new int[] {-1, 6, 32, MIN, MAX}) {
            refused("30 box " + box, Check.THROWS, x -> Check.look(x, box, 0));
        }
        for (int what : new int[] {-1, 9, MIN, MAX}) {
            refused("30 what " + what, Check.THROWS, x -> Check.look(x, 0, what));
        }
        for (int what : new int[] {-1, 13, MIN, MAX}) {
            refused("31 what " + what, -1, x -> x.count(what));
        }
    }

    private static void whatIsFull() {
        refused("3 the 13th of a loop", -1, x -> x.box(0, 55, 0, 0, 0, 0));
        refused("3 the 33rd box", -1, x -> x.box(3, 55, 0, 0, 0, 0));
        refused("5 wire 13", 0, x -> bit(x.cut(1, 13, true)));
        refused("11 the 13th house", -1, x -> x.house(1, 1));
        refused("12 the 21st company", -1, x -> x.company(0, 11));
        refused("14 the 1001st sign", 1000, x -> x.feed(Check.bytes("send 9 e", 0), Check.bytes("ngines 9", 0), -1));
    }

    private static void atTheEndOfTime() {
        refused("2 one tick", -1, x -> x.ticks(1));
        refused("2 5000 ticks", -1, x -> x.ticks(5000));
        refused("4 it begins at the tick that never comes", 0, x -> bit(x.pull(0)));
        refused("4 it waits for ever", 0, x -> bit(x.pull(1)));
        refused("6 tick 1000000", -1, x -> x.knocked(0, 1000000));
        refused("7 to 1000000", -2, x -> x.reading(0, 999990, 1000000));
        refused("27 day 12", -1, x -> x.known(0, 12));
        refused("28 day 12", -1, x -> x.rate(0, 12));
    }

    private static void noMoves() {
        refused("23 two are not enough", -1, x -> x.moves());
        refused("24 of no moves", -1, x -> x.move(0, 0));
        refused("25 two are not enough", -1, x -> x.done());
    }

    private static void inAnEmptyCity() {
        refused("4 no box", 0, x -> bit(x.pull(0)));
        refused("6 no tick", -1, x -> x.knocked(0, 0));
        refused("6 the tick that comes", -1, x -> x.knocked(0, 1));
        refused("7 no tick", -2, x -> x.reading(0, 1, 1));
        refused("7 no ticks", -2, x -> x.reading(0, 1, 0));
        refused("8 no story", 0, x -> x.stories());
        refused("9 no story", -1, x -> x.story(0, 0, 0));
        refused("10 no box", -1, x -> x.ask());
        refused("12 no house", -1, x -> x.company(0, 0));
        refused("14 no sign", 0, x -> x.feed(0, 0, 0));
        refused("15 no sign", 0, x -> x.cards());
        refused("16 no box", -1, x -> x.alarm(0));
        refused("17 no alarm", -1, x -> x.again(0));
        refused("18 no alarm", -1, x -> x.sent(0, 0));
        refused("19 no alarm", 0, x -> bit(x.over(0, true)));
        refused("20 no company", -1, x -> x.at(0));
        refused("21 no company", -1, x -> x.there(0));
        refused("22 no boxes", -1, x -> x.covered(0));
        refused("23 no boxes", 0, x -> x.moves());
        refused("24 no moves", -1, x -> x.move(0, 0));
        refused("25 no boxes", 0, x -> x.done());
        refused("26 no alarm", 0, x -> bit(x.word(0, true)));
        refused("27 no alarm", -1, x -> x.known(0, 0));
        refused("28 no box", -1, x -> x.rate(0, 0));
        refused("29 no boxes", -1, x -> x.worst(0));
        refused("30 no box", Check.THROWS, x -> Check.look(x, 0, 0));
    }
}
