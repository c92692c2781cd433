import java.util.ArrayList;
import java.util.Arrays;
import java.util.BitSet;
import java.util.List;
import java.util.NoSuchElementException;
import java.util.TreeSet;
import java.util.regex.Matcher;
import java.util.regex.Pattern;

/** The document once more, written as slowly and plainly as can be: what random runs are measured by. */
final class Model {
    static final class Box { int index, loop, number, kind, x, y, ward, along, begin = -1; boolean waits; }
    static final class Company { int kind, home, at, arrives; Alarm to; }
    static final class Alarm { Box box; int day, calls = 1; boolean over; List<Integer> sent = new ArrayList<>(); List<int[]> words = new ArrayList<>(); }

    int now = 0;
    final List<Box> boxes = new ArrayList<>();
    final List<List<Box>> loops = new ArrayList<>();
    final List<TreeSet<Integer>> cuts = new ArrayList<>();
    final List<TreeSet<Integer>> heardEver = new ArrayList<>();
    final List<int[]> houses = new ArrayList<>();
    final List<Company> companies = new ArrayList<>();
    final List<Alarm> alarms = new ArrayList<>();
    int pace = 3, reach = 40, laterWords = 0;
    String letters = "";
    List<Object[]> cards = new ArrayList<>();
    List<int[]> stories = new ArrayList<>();
    List<Box> readBoxes = null;

    Model() {
        for (int i = 0; i < 4; i++) {
            loops.add(new ArrayList<>());
            cuts.add(new TreeSet<>());
            heardEver.add(new TreeSet<>());
        }
    }

    private static final List<List<Integer>> WHEELS = new ArrayList<>();

    static List<Integer> wheel(int number) {
        while (WHEELS.size() <= number) {
            WHEELS.add(null);
        }
        if (WHEELS.get(number) == null) {
            WHEELS.set(number, newWheel(number));
        }
        return WHEELS.get(number);
    }

    private static List<Integer> newWheel(int number) {
        StringBuilder round = new StringBuilder();
        for (char digit : String.valueOf(number).toCharArray()) {
            if (round.length() > 0) {
                round.append("...");
            }
            for (int i = 1; i <= digit - '0'; i++) {
                round.append(i == 1 ? "!" : ".!");
            }
        }
        String all = round + "......" + round + "......" + round;
        List<Integer> knocks = new ArrayList<>();
        for (int i = 0; i < all.length(); i++) {
            if (all.charAt(i) == '!') {
                knocks.add(i);
            }
        }
        return knocks;
    }

    static int lastOffset(int number) {
        List<Integer> w = wheel(number);
        return w.get(w.size() - 1);
    }

    boolean goesOn(Box b, int tick) {
        return b.begin >= 0 && tick <= b.begin + lastOffset(b.number);
    }

    boolean dumb(Box b) {
        TreeSet<Integer> cut = cuts.get(b.loop);
        return cut.size() >= 2 && cut.first() <= b.along && cut.last() >= b.along + 1;
    }

    int ticks(int n) {
        if (n < 0 || n > 5000 || now + n > 999999) {
            return -1;
        }
        for (int i = 0; i < n; i++) {
            now++;
            for (int l = 0; l < 4; l++) {
                tick(l);
            }
        }
        return now;
    }

    private void tick(int l) {
        boolean quiet = true;
        for (int t = now - 7; t < now; t++) {
            quiet &= !heardEver.get(l).contains(t);
        }
        boolean busy = false;
        for (Box b : loops.get(l)) {
            busy |= goesOn(b, now);
        }
        if (quiet && !busy) {
            for (Box b : loops.get(l)) {
                if (b.waits) {
                    b.waits = false;
                    b.begin = now;
                    break;
                }
            }
        }
        for (Box b : loops.get(l)) {
            if (b.begin >= 0 && now - b.begin <= 111 && wheel(b.number).contains(now - b.begin) && !dumb(b)) {
                heardEver.get(l).add(now);
            }
        }
        while (heardEver.get(l).size() > 500) {
            heardEver.get(l).pollFirst();
        }
    }

    int box(int loop, int number, int kind, int x, int y, int ward) {
        boolean fits = loop >= 0 && loop <= 3 && String.valueOf(number).matches("[1-5]{2,3}") && (kind == 0 || kind == 1)
            && place(x, y) && ward >= 0 && ward <= 7 && boxes.size() < 32 && loops.get(loop).size() < 12;
        if (!fits) {
            return -1;
        }
        for (Box b : loops.get(loop)) {
            if (b.number == number) {
                return -1;
            }
        }
        Box b = new Box();
        b.index = boxes.size();
        b.loop = loop;
        b.number = number;
        b.kind = kind;
        b.x = x;
        b.y = y;
        b.ward = ward;
        b.along = loops.get(loop).size();
        loops.get(loop).add(b);
        boxes.add(b);
        return b.index;
    }

    static boolean place(int x, int y) {
        return x >= 0 && x <= 99 && y >= 0 && y <= 99;
    }

    static <T> T get(List<T> list, int i) {
        return i >= 0 && i < list.size() ? list.get(i) : null;
    }

    boolean pull(int box) {
        Box b = get(boxes, box);
        if (b == null || b.waits || goesOn(b, now)) {
            return false;
        }
        if (b.kind == 1) {
            b.waits = true;
        } else {
            b.begin = now + 1;
        }
        return true;
    }

    boolean cut(int loop, int wire, boolean yes) {
        List<Box> l = get(loops, loop);
        if (l == null || wire < 0 || wire > l.size()) {
            return false;
        }
        if (yes) {
            cuts.get(loop).add(wire);
        } else {
            cuts.get(loop).remove(wire);
        }
        return true;
    }

    int knocked(int loop, int tick) {
        return get(loops, loop) == null || tick < 1 || tick > now ? -1 : heardEver.get(loop).contains(tick) ? 1 : 0;
    }

    int reading(int loop, int from, int to) {
        if (get(loops, loop) == null || from < 1 || to > now || from > to || to - from + 1 > 300) {
            return -2;
        }
        readBoxes = loops.get(loop);
        stories = new ArrayList<>();
        BitSet heard = new BitSet();
        for (int t : heardEver.get(loop).subSet(from, to + 1)) {
            heard.set(t - from);
        }
        List<int[]> begins = new ArrayList<>();
        List<BitSet> seen = new ArrayList<>();
        for (Box b : readBoxes) {
            for (int t = from; t <= to; t++) {
                BitSet s = new BitSet();
                for (int k : wheel(b.number)) {
                    if (t + k <= to) {
                        s.set(t + k - from);
                    }
                }
                BitSet beyond = (BitSet) s.clone();
                beyond.andNot(heard);
                if (beyond.isEmpty()) {
                    begins.add(new int[] {b.along, t});
                    seen.add(s);
                }
            }
        }
        for (int n = 0; n <= 3; n++) {
            tell(n, 0, new BitSet(), new ArrayList<>(), heard, begins, seen);
            if (!stories.isEmpty()) {
                return n;
            }
        }
        return -1;
    }

    private void tell(int left, int start, BitSet told, List<Integer> chosen, BitSet heard, List<int[]> begins, List<BitSet> seen) {
        if (left == 0) {
            if (told.equals(heard) && stories.size() < 200) {
                int[] story = new int[chosen.size() * 2];
                for (int i = 0; i < chosen.size(); i++) {
                    story[2 * i] = begins.get(chosen.get(i))[0];
                    story[2 * i + 1] = begins.get(chosen.get(i))[1];
                }
                stories.add(story);
            }
            return;
        }
        if (heard.cardinality() - told.cardinality() > 45 * left) {
            return;
        }
        for (int i = start; i < begins.size() && stories.size() < 200; i++) {
            if (!chosen.isEmpty() && begins.get(chosen.get(chosen.size() - 1))[0] == begins.get(i)[0]) {
                continue;
            }
            BitSet more = (BitSet) told.clone();
            more.or(seen.get(i));
            chosen.add(i);
            tell(left - 1, i + 1, more, chosen, heard, begins, seen);
            chosen.remove(chosen.size() - 1);
        }
    }

    int stories() {
        return stories.size();
    }

    int story(int i, int j, int what) {
        int[] s = get(stories, i);
        if (s == null || j < 0 || j >= s.length / 2 || what < 0 || what > 1) {
            return -1;
        }
        return what == 1 ? s[2 * j + 1] : readBoxes.get(s[2 * j]).index;
    }

    int ask() {
        if (stories.size() < 2) {
            return -1;
        }
        int best = -1;
        int least = 1000;
        for (Box b : readBoxes) {
            int have = 0;
            for (int[] s : stories) {
                for (int j = 0; j < s.length; j += 2) {
                    have += s[j] == b.along ? 1 : 0;
                }
            }
            int v = Math.max(have, stories.size() - have);
            if (v < least) {
                least = v;
                best = b.index;
            }
        }
        return best;
    }

    int house(int x, int y) {
        if (!place(x, y) || houses.size() == 12) {
            return -1;
        }
        houses.add(new int[] {x, y});
        return houses.size() - 1;
    }

    int company(int kind, int house) {
        if (kind < 0 || kind > 1 || get(houses, house) == null || companies.size() == 20) {
            return -1;
        }
        Company c = new Company();
        c.kind = kind;
        c.home = house;
        c.at = house;
        companies.add(c);
        return companies.size() - 1;
    }

    boolean pace(int n, int reach) {
        boolean ok = n >= 1 && n <= 9 && reach >= 0 && reach <= 198;
        this.pace = ok ? n : this.pace;
        this.reach = ok ? reach : this.reach;
        return ok;
    }

    int feed(long a, long b, long c) {
        for (long v : new long[] {a, b, c}) {
            for (int i = 7; i >= 0; i--) {
                int sign = (int) (v >> 8 * i) & 255;
                if ((sign == 10 || sign >= 32 && sign <= 126) && letters.length() < 1000) {
                    letters += (char) sign;
                }
            }
        }
        return letters.length();
    }

    // ---- cards: tokens by a pattern, sentences as trees

    static final class Fault extends RuntimeException {
        final int code;
        Fault(int kind, int place) { super(null, null, false, false); code = kind + 16 * place; }
    }

    static final Pattern TOKEN = Pattern.compile("[a-z]+|[0-9]+|[^ \n]");
    private List<String> tokens;
    private List<Integer> places;
    private int p;

    int cards() {
        String text = letters;
        letters = "";
        tokens = new ArrayList<>();
        places = new ArrayList<>();
        Matcher m = TOKEN.matcher(text);
        while (m.find()) {
            tokens.add(m.group());
            places.add(m.start());
        }
        tokens.add("");
        places.add(text.length());
        p = 0;
        try {
            cards = lines();
            return 0;
        } catch (Fault f) {
            return f.code;
        }
    }

    private Fault fault(int kind) {
        return new Fault(kind, places.get(p));
    }

    private List<Object[]> lines() {
        List<Object[]> lines = new ArrayList<>();
        while (!tokens.get(p).isEmpty()) {
            if (tokens.get(p).equals("send") && lines.size() == 24) {
                throw fault(5);
            }
            must("send");
            int engines = amount();
            must("engines");
            int ladders = amount();
            must("ladders");
            must("when");
            Object test = either(0);
            must(";");
            lines.add(new Object[] {engines, ladders, test});
        }
        return lines;
    }

    private void must(String token) {
        if (!tokens.get(p).equals(token)) {
            throw fault(1);
        }
        p++;
    }

    private int amount() {
        String t = tokens.get(p);
        if (!t.matches("[0-9]{1,4}")) {
            throw fault(1);
        }
        if (Integer.parseInt(t) > 9) {
            throw fault(4);
        }
        p++;
        return Integer.parseInt(t);
    }

    private boolean is(String... some) {
        return Arrays.asList(some).contains(tokens.get(p));
    }

    private Object either(int depth) {
        Object left = test(depth);
        while (is("and", "or")) {
            String op = tokens.get(p++);
            left = new Object[] {op, left, test(depth)};
        }
        return left;
    }

    private Object test(int depth) {
        Object left = sum(depth);
        if (is("<", "=")) {
            String op = tokens.get(p++);
            left = new Object[] {op, left, sum(depth)};
        }
        return left;
    }

    private Object sum(int depth) {
        Object left = part(depth);
        while (is("+", "-")) {
            String op = tokens.get(p++);
            left = new Object[] {op, left, part(depth)};
        }
        return left;
    }

    private Object part(int depth) {
        String t = tokens.get(p);
        boolean number = t.matches("[0-9]{1,4}");
        if (!number && !is("box", "ward", "loop", "hour", "call", "out", "false", "not", "(")) {
            throw fault(1);
        }
        if (depth == 5) {
            throw fault(5);
        }
        p++;
        if (t.equals("not")) {
            return new Object[] {"not", part(depth + 1), 0};
        }
        if (t.equals("(")) {
            Object inner = either(depth + 1);
            must(")");
            return inner;
        }
        return number ? (Object) Integer.parseInt(t) : t;
    }

    private int reckon(Object tree, Alarm a) {
        if (tree instanceof Integer) {
            return (Integer) tree;
        }
        if (tree instanceof String) {
            switch ((String) tree) {
                case "box": return a.box.number;
                case "ward": return a.box.ward;
                case "loop": return a.box.loop;
                case "hour": return now / 3600 % 24;
                case "call": return a.calls;
                case "out": return count(4);
                default: return rate(a.box.index, now / 86400);
            }
        }
        Object[] node = (Object[]) tree;
        int left = reckon(node[1], a);
        int right = reckon(node[2], a);
        switch ((String) node[0]) {
            case "not": return left == 0 ? 1 : 0;
            case "and": return left != 0 && right != 0 ? 1 : 0;
            case "or": return left != 0 || right != 0 ? 1 : 0;
            case "<": return left < right ? 1 : 0;
            case "=": return left == right ? 1 : 0;
            case "+": return left + right;
            default: return left - right;
        }
    }

    // ---- alarms

    int way(int house, Box b) {
        return Math.abs(houses.get(house)[0] - b.x) + Math.abs(houses.get(house)[1] - b.y);
    }

    int alarm(int box) {
        Box b = get(boxes, box);
        if (b == null || alarms.size() == 100) {
            return -1;
        }
        Alarm a = new Alarm();
        a.box = b;
        a.day = now / 86400;
        alarms.add(a);
        answer(a);
        return alarms.size() - 1;
    }

    int again(int alarm) {
        Alarm a = get(alarms, alarm);
        if (a == null || a.over || a.calls == 3) {
            return -1;
        }
        a.calls++;
        answer(a);
        return a.calls;
    }

    private void answer(Alarm a) {
        for (Object[] line : cards) {
            if (reckon(line[2], a) != 0) {
                send(a, 0, (Integer) line[0]);
                send(a, 1, (Integer) line[1]);
                return;
            }
        }
    }

    private void send(Alarm a, int kind, int n) {
        List<Integer> in = new ArrayList<>();
        for (int i = 0; i < companies.size(); i++) {
            if (companies.get(i).kind == kind && companies.get(i).to == null) {
                in.add(i);
            }
        }
        in.sort((p, q) -> {
            int d = way(companies.get(p).at, a.box) - way(companies.get(q).at, a.box);
            return d != 0 ? d : p - q;
        });
        for (int i : in.subList(0, Math.min(n, in.size()))) {
            Company c = companies.get(i);
            c.to = a;
            c.arrives = now + pace * way(c.at, a.box);
            a.sent.add(i);
        }
    }

    int sent(int alarm, int i) {
        Alarm a = get(alarms, alarm);
        Integer c = a == null ? null : get(a.sent, i);
        return c == null ? -1 : c;
    }

    boolean over(int alarm, boolean isTrue) {
        Alarm a = get(alarms, alarm);
        if (a == null || a.over) {
            return false;
        }
        a.over = true;
        a.words.add(new int[] {now / 86400, isTrue ? 1 : 0});
        for (Company c : companies) {
            if (c.to == a) {
                c.to = null;
                c.at = c.home;
            }
        }
        return true;
    }

    int at(int company) {
        Company c = get(companies, company);
        return c == null || c.to != null ? -1 : c.at;
    }

    int there(int company) {
        Company c = get(companies, company);
        return c == null || c.to == null ? -1 : c.arrives;
    }

    // ---- cover: each set of moves is really made, looked at, and taken back

    int covered(int ward) {
        int all = -1;
        for (Box b : boxes) {
            if (b.ward == ward) {
                boolean near = false;
                for (Company c : companies) {
                    near |= c.kind == 0 && c.to == null && way(c.at, b) <= reach;
                }
                all = near && all != 0 ? 1 : 0;
            }
        }
        return all;
    }

    private boolean allCovered() {
        for (int w = 0; w < 8; w++) {
            if (covered(w) == 0) {
                return false;
            }
        }
        return true;
    }

    private int[] findMoves() {
        if (allCovered()) {
            return new int[0];
        }
        List<int[]> single = new ArrayList<>();
        boolean[] engineIn = new boolean[12];
        for (Company c : companies) {
            engineIn[c.at] |= c.kind == 0 && c.to == null;
        }
        for (int c = 0; c < companies.size(); c++) {
            for (int h = 0; h < houses.size(); h++) {
                if (companies.get(c).kind == 0 && companies.get(c).to == null && !engineIn[h]) {
                    single.add(new int[] {c, h});
                }
            }
        }
        for (int[] m : single) {
            if (serves(m)) {
                return m;
            }
        }
        for (int[] m : single) {
            for (int[] k : single) {
                if (k[0] > m[0] && k[1] != m[1] && serves(new int[] {m[0], m[1], k[0], k[1]})) {
                    return new int[] {m[0], m[1], k[0], k[1]};
                }
            }
        }
        return null;
    }

    private boolean serves(int[] moves) {
        int[] back = new int[companies.size()];
        for (int i = 0; i < back.length; i++) {
            back[i] = companies.get(i).at;
        }
        for (int i = 0; i < moves.length; i += 2) {
            companies.get(moves[i]).at = moves[i + 1];
        }
        boolean serves = allCovered();
        for (int i = 0; i < back.length; i++) {
            companies.get(i).at = back[i];
        }
        return serves;
    }

    int moves() {
        int[] m = findMoves();
        return m == null ? -1 : m.length / 2;
    }

    int move(int i, int what) {
        int[] m = findMoves();
        return m == null || i < 0 || i >= m.length / 2 || what < 0 || what > 1 ? -1 : m[2 * i + what];
    }

    int done() {
        int[] m = findMoves();
        for (int i = 0; m != null && i < m.length; i += 2) {
            companies.get(m[i]).at = m[i + 1];
        }
        return m == null ? -1 : m.length / 2;
    }

    // ---- the book

    boolean word(int alarm, boolean isTrue) {
        Alarm a = get(alarms, alarm);
        if (a == null || !a.over || laterWords == 200) {
            return false;
        }
        laterWords++;
        a.words.add(new int[] {now / 86400, isTrue ? 1 : 0});
        return true;
    }

    int known(int alarm, int day) {
        Alarm a = get(alarms, alarm);
        if (a == null || day < 0 || day > now / 86400 || a.day > day) {
            return -1;
        }
        int word = 2;
        for (int[] w : a.words) {
            word = w[0] <= day ? w[1] : word;
        }
        return word;
    }

    int rate(int box, int day) {
        if (get(boxes, box) == null || day < 0 || day > now / 86400) {
            return -1;
        }
        int wrong = 0;
        int told = 0;
        for (int i = 0; i < alarms.size(); i++) {
            if (alarms.get(i).box.index == box) {
                wrong += known(i, day) == 0 ? 1 : 0;
                told += known(i, day) == 0 || known(i, day) == 1 ? 1 : 0;
            }
        }
        return 1000 * (wrong + 1) / (told + 2);
    }

    int worst(int ward) {
        int worst = -1;
        for (Box b : boxes) {
            if (b.ward == ward && (worst < 0 || rate(b.index, now / 86400) > rate(worst, now / 86400))) {
                worst = b.index;
            }
        }
        return worst;
    }

    int look(int box, int what) {
        Box b = get(boxes, box);
        if (b == null || what < 0 || what > 8) {
            throw new NoSuchElementException();
        }
        int state = b.waits ? 1 : goesOn(b, now) ? 2 : 0;
        int[] all = {b.loop, b.number, b.kind, b.ward, state, dumb(b) ? 1 : 0, b.begin, b.along, wheel(b.number).size() / 3};
        return all[what];
    }

    int count(int what) {
        int out = 0;
        for (Company c : companies) {
            out += c.to != null ? 1 : 0;
        }
        int open = 0;
        for (Alarm a : alarms) {
            open += a.over ? 0 : 1;
        }
        int going = 0;
        int waiting = 0;
        for (Box b : boxes) {
            going += look(b.index, 4) == 2 ? 1 : 0;
            waiting += look(b.index, 4) == 1 ? 1 : 0;
        }
        int cut = 0;
        for (TreeSet<Integer> c : cuts) {
            cut += c.size();
        }
        int[] all = {now, boxes.size(), houses.size(), companies.size(), out, alarms.size(), open, laterWords, cards.size(),
            letters.length(), going, waiting, cut};
        return what < 0 || what > 12 ? -1 : all[what];
    }
}
