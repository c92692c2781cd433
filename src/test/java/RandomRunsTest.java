/** Random runs of 512 calls, each answer measured by the model's. A number may be given: the count of runs. */
public final class RandomRunsTest {
    private static final int CALLS = 512;
    private static final String[] WORDS = {"send", "engines", "ladders", "when", "and", "or", "box", "ward", "loop", "hour",
        "call", "out", "false", "not", "(", ")", "<", "=", "+", "-", ";", "0", "1", "9", "10", "345", "9999", "12345", "x",
        "abcdefghi", "#", "\n", " "};
    private static final String[] FACTS = {"box", "ward", "loop", "hour", "call", "out", "false"};

    private final Check check;
    private final int seed;
    private final AlarmBoxes x = new AlarmBoxes();
    private final Model m = new Model();
    private long state;
    private int made = 0;
    private int flavour;

    private RandomRunsTest(Check check, int seed) {
        this.check = check;
        this.seed = seed;
        this.state = seed * 2862933555777941757L + 3037000493L;
        this.flavour = seed % 5;
    }

    public static void main(String[] args) {
        int runs = args.length > 0 ? Integer.parseInt(args[0]) : 150;
        int first = args.length > 1 ? Integer.parseInt(args[1]) : 1;
        Check check = new Check();
        for (int seed = first; seed < first + runs; seed++) {
            new RandomRunsTest(check, seed).run();
        }
        check.end();
    }

    private int below(int n) {
        state = state * 6364136223846793005L + 1442695040888963407L;
        return (int) ((state >>> 33) % n);
    }

    private boolean coin() {
        return below(2) == 0;
    }

    /** Mostly 0 to n - 1, now and then a number outside. */
    private int some(int n) {
        int r = below(60);
        return r == 0 ? -1 : r == 1 ? n : r == 2 ? Integer.MIN_VALUE + below(3) : r == 3 ? Integer.MAX_VALUE - below(3)
            : below(Math.max(n, 1));
    }

    private void due(String call, long got, long want) {
        made++;
        check.due("run " + seed + ", call " + made + ": " + call, got, want);
    }

    private void due(String call, boolean got, boolean want) {
        due(call, got ? 1 : 0, want ? 1 : 0);
    }

    private void run() {
        int loopsUsed = flavour < 2 ? 1 : 4;
        int setUp = 8 + below(40);
        if (flavour == 2 || flavour == 3) {
            setUpBrigade();
            setUp = made;
        }
        while (made < CALLS) {
            if (made < setUp || below(40) == 0) {
                build(loopsUsed);
            } else if (flavour == 0 || flavour == 1) {
                int r = below(10);
                if (r < 6) { onLoops(loopsUsed); } else if (r < 9) { onReadings(loopsUsed); } else { onAnything(); }
            } else if (flavour == 2) {
                int r = below(40);
                if (r < 26) { onBrigade(); } else if (r < 28) { onCards(); } else { onBook(); }
            } else if (flavour == 3) {
                if (below(40) == 0) { onCards(); } else { onBrigade(); }
            } else {
                onAnything();
            }
        }
    }

    private void setUpBrigade() {
        int n = 1 + below(flavour == 2 ? 20 : 6);
        for (int i = 0; i < n; i++) {
            int number = number();
            int px = below(100);
            int py = below(100);
            int ward = below(4);
            due("box", x.box(i % 4, number, 0, px, py, ward), m.box(i % 4, number, 0, px, py, ward));
        }
        int houses = 3 + below(10);
        for (int i = 0; i < houses; i++) {
            int px = below(100);
            int py = below(100);
            due("house", x.house(px, py), m.house(px, py));
        }
        int companies = 2 + below(flavour == 2 ? 19 : 9);
        for (int i = 0; i < companies; i++) {
            int kind = below(3) / 2;
            int house = below(houses);
            due("company", x.company(kind, house), m.company(kind, house));
        }
        feedAndRead("send " + below(3) + " engines " + below(3) + " ladders when call < 2; send 2engines 1ladders when 1;");
    }

    private void onAnything() {
        switch (below(6)) {
            case 0: onLoops(4); break;
            case 1: onReadings(4); break;
            case 2: onBrigade(); break;
            case 3: onCards(); break;
            case 4: onBook(); break;
            default: onLooks();
        }
    }

    private int number() {
        int digits = 2 + below(2);
        int n = 0;
        int most = flavour == 1 ? 2 : 5;
        for (int i = 0; i < digits; i++) {
            n = 10 * n + 1 + below(below(50) == 0 ? 9 : most);
        }
        return n;
    }

    private void build(int loopsUsed) {
        switch (below(6)) {
            case 0: case 1: case 2: {
                int loop = below(30) == 0 ? some(4) : below(loopsUsed);
                int n = number();
                int kind = below(30) == 0 ? some(2) : below(3) == 0 ? 1 : 0;
                int px = some(100);
                int py = some(100);
                int ward = below(30) == 0 ? some(8) : below(3);
                due("box(" + loop + ", " + n + ", " + kind + ", " + px + ", " + py + ", " + ward + ")",
                    x.box(loop, n, kind, px, py, ward), m.box(loop, n, kind, px, py, ward));
                break;
            }
            case 3: {
                int px = some(100);
                int py = some(100);
                due("house(" + px + ", " + py + ")", x.house(px, py), m.house(px, py));
                break;
            }
            default: {
                int kind = some(2);
                int house = some(m.houses.size());
                due("company(" + kind + ", " + house + ")", x.company(kind, house), m.company(kind, house));
            }
        }
    }

    private void onLoops(int loopsUsed) {
        int r = below(12);
        if (r < 4) {
            int box = some(m.boxes.size());
            due("pull(" + box + ")", x.pull(box), m.pull(box));
        } else if (r < 8) {
            int n = below(20) == 0 ? some(5001) : below(4) == 0 ? below(150) : below(12);
            due("ticks(" + n + ")", x.ticks(n), m.ticks(n));
        } else if (r < 9) {
            int loop = below(30) == 0 ? some(4) : below(loopsUsed);
            int wire = some(Math.min(13, 1 + (loop >= 0 && loop < 4 ? m.loops.get(loop).size() : 0)));
            boolean yes = below(3) == 0;
            due("cut(" + loop + ", " + wire + ", " + yes + ")", x.cut(loop, wire, yes), m.cut(loop, wire, yes));
        } else if (r < 10) {
            int loop = below(30) == 0 ? some(4) : below(loopsUsed);
            int tick = below(20) == 0 ? some(m.now + 2) : Math.max(0, m.now - below(1500));
            due("knocked(" + loop + ", " + tick + ")", x.knocked(loop, tick), m.knocked(loop, tick));
        } else {
            onLooks();
        }
    }

    private void onReadings(int loopsUsed) {
        int r = below(10);
        if (r < 4) {
            int loop = below(30) == 0 ? some(4) : below(loopsUsed);
            int to = below(20) == 0 ? some(m.now + 3) : m.now - below(1 + Math.min(m.now, 30));
            int from = below(20) == 0 ? some(m.now + 3) : to - below(below(6) == 0 ? 301 : 40);
            due("reading(" + loop + ", " + from + ", " + to + ")", x.reading(loop, from, to), m.reading(loop, from, to));
            due("stories()", x.stories(), m.stories());
        } else if (r < 9) {
            int i = below(4) == 0 ? m.stories.size() - 1 : some(m.stories.size());
            int j = some(m.stories.isEmpty() ? 1 : m.stories.get(0).length / 2);
            int what = some(2);
            due("story(" + i + ", " + j + ", " + what + ")", x.story(i, j, what), m.story(i, j, what));
        } else {
            due("ask()", x.ask(), m.ask());
        }
    }

    /** Half of the time an alarm that is not over. */
    private int anAlarm() {
        int alarm = some(m.alarms.size());
        for (int i = 0; i < m.alarms.size() && coin(); i++) {
            if (!m.alarms.get(i).over && !m.alarms.get(i).sent.isEmpty()) {
                return i;
            }
        }
        return alarm;
    }

    private void onBrigade() {
        int company = some(m.companies.size());
        int alarm = anAlarm();
        boolean isTrue = coin();
        switch (below(17)) {
            case 0: case 14: {
                int box = some(m.boxes.size());
                due("alarm(" + box + ")", x.alarm(box), m.alarm(box));
                break;
            }
            case 2: due("again(" + alarm + ")", x.again(alarm), m.again(alarm)); break;
            case 3: case 4: {
                int i = some(6);
                due("sent(" + alarm + ", " + i + ")", x.sent(alarm, i), m.sent(alarm, i));
                break;
            }
            case 5: case 6: case 15: case 16: due("over(" + alarm + ", " + isTrue + ")", x.over(alarm, isTrue), m.over(alarm, isTrue)); break;
            case 7: due("at(" + company + ")", x.at(company), m.at(company)); break;
            case 8: due("there(" + company + ")", x.there(company), m.there(company)); break;
            case 9: {
                int ward = some(4);
                due("covered(" + ward + ")", x.covered(ward), m.covered(ward));
                break;
            }
            case 10: due("moves()", x.moves(), m.moves()); break;
            case 11: {
                int i = some(2);
                int what = some(2);
                due("move(" + i + ", " + what + ")", x.move(i, what), m.move(i, what));
                break;
            }
            case 12: due("done()", x.done(), m.done()); break;
            default: {
                int n = below(10) == 0 ? some(12) : 1 + below(9);
                int reach = below(10) == 0 ? some(199) : 20 + below(50);
                due("pace(" + n + ", " + reach + ")", x.pace(n, reach), m.pace(n, reach));
            }
        }
    }

    private void onCards() {
        StringBuilder text = new StringBuilder();
        if (below(4) == 0) {
            int n = 1 + below(12);
            for (int i = 0; i < n; i++) {
                text.append(WORDS[below(WORDS.length)]).append(coin() ? " " : "");
            }
        } else {
            int lines = below(20) == 0 ? 22 + below(5) : 1 + below(4);
            for (int i = 0; i < lines; i++) {
                text.append("send ").append(below(40) == 0 ? below(99999) : below(5)).append(" engines ").append(below(4))
                    .append(" ladders when ");
                either(text, below(30) == 0 ? 4 : 0, lines > 9);
                text.append(coin() ? ";" : " ;\n");
            }
        }
        if (below(4) == 0 && text.length() > 0) {
            int at = below(text.length());
            text.replace(at, at + below(2), WORDS[below(WORDS.length)]);
        }
        feedAndRead(text.toString());
    }

    private void feedAndRead(String t) {
        for (int start = 0; start < t.length(); start += 24) {
            long a = Check.bytes(t, start);
            long b = Check.bytes(t, start + 8);
            long c = Check.bytes(t, start + 16);
            due("feed(" + a + ", " + b + ", " + c + ")", x.feed(a, b, c), m.feed(a, b, c));
        }
        due("cards()", x.cards(), m.cards());
        due("count(8)", x.count(8), m.count(8));
    }

    private void either(StringBuilder text, int depth, boolean isShort) {
        test(text, depth, isShort);
        while (!isShort && below(3) == 0) {
            text.append(coin() ? " and " : " or ");
            test(text, depth, false);
        }
    }

    private void test(StringBuilder text, int depth, boolean isShort) {
        sum(text, depth, isShort);
        if (!isShort && coin()) {
            text.append(coin() ? " < " : "=");
            sum(text, depth, false);
        }
    }

    private void sum(StringBuilder text, int depth, boolean isShort) {
        part(text, depth, isShort);
        while (!isShort && below(3) == 0) {
            text.append(coin() ? "+" : " - ");
            part(text, depth, false);
        }
    }

    private void part(StringBuilder text, int depth, boolean isShort) {
        int r = isShort ? 0 : below(8);
        if (r < 2) {
            text.append(below(4) == 0 ? below(1000) : below(8));
        } else if (r < 5 || depth > (below(12) == 0 ? 5 : 1)) {
            text.append(FACTS[below(FACTS.length)]);
        } else if (r < 6) {
            text.append("not ");
            part(text, depth + 1, false);
        } else {
            text.append("(");
            either(text, depth + 1, false);
            text.append(")");
        }
    }

    private void onBook() {
        int day = some(m.now / 86400 + 1);
        int alarm = some(m.alarms.size());
        boolean isTrue = coin();
        switch (below(8)) {
            case 0: case 1: due("word(" + alarm + ", " + isTrue + ")", x.word(alarm, isTrue), m.word(alarm, isTrue)); break;
            case 2: case 3: due("known(" + alarm + ", " + day + ")", x.known(alarm, day), m.known(alarm, day)); break;
            case 4: case 5: {
                int box = some(m.boxes.size());
                due("rate(" + box + ", " + day + ")", x.rate(box, day), m.rate(box, day));
                break;
            }
            case 6: {
                int ward = some(4);
                due("worst(" + ward + ")", x.worst(ward), m.worst(ward));
                break;
            }
            default: {
                int n = below(3) == 0 ? 5000 : below(5000);
                for (int i = 0; i < 6; i++) {
                    due("ticks(" + n + ")", x.ticks(n), m.ticks(n));
                }
            }
        }
    }

    private void onLooks() {
        if (coin()) {
            int what = some(13);
            due("count(" + what + ")", x.count(what), m.count(what));
            return;
        }
        int box = some(m.boxes.size());
        int what = some(9);
        int want;
        try {
            want = m.look(box, what);
        } catch (java.util.NoSuchElementException e) {
            want = Check.THROWS;
        }
        due("look(" + box + ", " + what + ")", Check.look(x, box, what), want);
    }
}
