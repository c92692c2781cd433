/** The calls that README.md shows, each with the answer that it tells. */
public final class ReadmeTest {
    private static final Check c = new Check();

    public static void main(String[] args) {
        AlarmBoxes city = new AlarmBoxes();
        int box = city.box(0, 21, 0, 10, 10, 0);
        c.due("box", box, 0);
        c.due("pull", city.pull(box), true);
        c.due("ticks", city.ticks(40), 40);
        c.due("knocked", city.knocked(0, 1), 1);
        c.due("reading", city.reading(0, 1, 40), 1);
        c.due("story: box", city.story(0, 0, 0), 0);
        c.due("story: tick", city.story(0, 0, 1), 1);
        c.due("ask", city.ask(), AlarmBoxes.NONE);
        sendByCards(city, box);
        c.end();
    }

    private static void sendByCards(AlarmBoxes city, int box) {
        int house = city.house(12, 10);
        int engine = city.company(0, house);
        String text = "send 1 engines 0 ladders when call < 2;";
        for (int i = 0; i < text.length(); i += 8) {
            long signs = 0;
            for (int k = i; k < i + 8; k++) {
                signs = signs << 8 | (k < text.length() ? text.charAt(k) : 0);
            }
            city.feed(signs, 0, 0);
        }
        c.due("signs on the tape of letters", city.count(9), text.length());
        c.due("cards", city.cards(), 0);
        c.due("covered", city.covered(0), 1);
        int alarm = city.alarm(box);
        c.due("sent", city.sent(alarm, 0), engine);
        c.due("there", city.there(engine), 46);
        c.due("moves", city.moves(), AlarmBoxes.NONE);
        c.due("over", city.over(alarm, false), true);
        c.due("at home", city.at(engine), house);
        c.due("rate", city.rate(box, 0), 666);
        c.due("word", city.word(alarm, true), true);
        c.due("rate behind the word", city.rate(box, 0), 333);
    }
}
