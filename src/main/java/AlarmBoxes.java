import java.util.ArrayList;
import java.util.NoSuchElementException;

/** Alarm boxes on wire loops, the tapes they leave, and the companies, cards and book of a fire watch. */
public final class AlarmBoxes {
    public static final int NONE = -1;

    private static final int LAST_TICK = 999999;
    private static final int MOST_TICKS = 5000;
    private static final int TICKS_OF_DAY = 86400;
    private static final int TICKS_OF_HOUR = 3600;
    private static final int HOURS = 24;
    private static final int LOOPS = 4;
    private static final int BOXES = 32;
    private static final int BOXES_OF_LOOP = 12;
    private static final int WARDS = 8;
    private static final int SIDE = 100;
    private static final int QUIET_AHEAD = 7;
    private static final int TAPE_LENGTH = 500;
    private static final int READ_TICKS = 300;
    private static final int READ_WORDS = 5;
    private static final int MOST_BEGINNINGS = 3;
    private static final int MOST_STORIES = 200;
    private static final int OTHER_TICKS = -2;
    private static final int HOUSES = 12;
    private static final int COMPANIES = 20;
    private static final int ENGINE = 0;
    private static final int LADDER = 1;
    private static final int MOST_PACE = 9;
    private static final int MOST_REACH = 198;
    private static final int MOST_SIGNS = 1000;
    private static final int LINES = 24;
    private static final int ALARMS = 100;
    private static final int CALLS = 3;
    private static final int WORDS = 200;
    private static final int FACTS = 7;
    private static final int NO_WORD = 2;

    private final Loop[] loops = new Loop[LOOPS];
    private final Reading latest = new Reading();
    private final Cover cover = new Cover();
    private final ArrayList<Box> boxes = cover.boxes;
    private final Brigade brigade = cover.brigade;
    private final CardReader reader = new CardReader();
    private final Letters letters = reader.letters;
    private final Book book = new Book();
    private final int[] facts = new int[FACTS];
    private Deck deck = new Deck();
    private int now = 0;

    public AlarmBoxes() {
        for (int i = 0; i < loops.length; i++) {
            loops[i] = new Loop();
        }
    }

    // ---- time, boxes and loops

    public int ticks(int n) {
        if (n < 0 || n > MOST_TICKS || now + n > LAST_TICK) {
            return NONE;
        }
        for (int i = 0; i < loops.length; i++) {
            loops[i].letPass(now, n);
        }
        now += n;
        return now;
    }

    public int box(int loop, int number, int kind, int x, int y, int ward) {
        Loop line = loopOf(loop);
        if (line == null || boxes.size() >= BOXES || !isWard(ward) || !isPlace(x, y)) {
            return NONE;
        }
        if (!isBoxNumber(number) || kind < 0 || kind > 1 || !line.hasRoomFor(number)) {
            return NONE;
        }
        Box box = new Box(number, kind);
        box.hang(boxes.size(), loop, line.boxes.size());
        box.stand(x, y, ward);
        line.boxes.add(box);
        boxes.add(box);
        return box.index;
    }

    public boolean pull(int box) {
        Box pulled = boxOf(box);
        if (pulled == null || pulled.waits || pulled.goesOn(now)) {
            return false;
        }
        if (pulled.kind == 0) {
            pulled.begin = now + 1;
        } else {
            pulled.waits = true;
        }
        return true;
    }

    public boolean cut(int loop, int wire, boolean yes) {
        Loop line = loopOf(loop);
        return line != null && line.setWire(wire, yes);
    }

    public int knocked(int loop, int tick) {
        Loop line = loopOf(loop);
        if (line == null || tick < 1 || tick > now) {
            return NONE;
        }
        return line.hasOnTape(tick) ? 1 : 0;
    }

    // ---- readings of a tape

    public int reading(int loop, int from, int to) {
        Loop line = loopOf(loop);
        if (line == null || from < 1 || to > now || from > to || to - from >= READ_TICKS) {
            return OTHER_TICKS;
        }
        return latest.takeFrom(line, from, to);
    }

    public int stories() {
        return latest.found;
    }

    public int story(int i, int j, int what) {
        if (!latest.hasBeginning(i, j)) {
            return NONE;
        }
        if (what == 0) {
            Box box = latest.boxOfBeginning(i, j);
            return box == null ? NONE : box.index;
        }
        return what == 1 ? latest.tickOfBeginning(i, j) : NONE;
    }

    public int ask() {
        Box box = latest.boxToAsk();
        return box == null ? NONE : box.index;
    }

    // ---- houses, companies and cards

    public int house(int x, int y) {
        return isPlace(x, y) ? brigade.addHouse(x, y) : NONE;
    }

    public int company(int kind, int house) {
        return kind == ENGINE || kind == LADDER ? brigade.addCompany(kind, house) : NONE;
    }

    public boolean pace(int n, int reach) {
        if (n < 1 || n > MOST_PACE || reach < 0 || reach > MOST_REACH) {
            return false;
        }
        brigade.pace = n;
        brigade.reach = reach;
        return true;
    }

    public int feed(long a, long b, long c) {
        letters.takeBytes(a);
        letters.takeBytes(b);
        letters.takeBytes(c);
        return letters.held;
    }

    public int cards() {
        int fault = reader.readLines();
        letters.held = 0;
        if (fault == 0) {
            deck = reader.changeFor(deck);
        }
        return fault;
    }

    // ---- alarms

    public int alarm(int box) {
        Box raised = boxOf(box);
        if (raised == null || book.alarms.size() >= ALARMS) {
            return NONE;
        }
        Alarm alarm = new Alarm(raised, today());
        answerCall(alarm);
        book.alarms.add(alarm);
        return book.alarms.size() - 1;
    }

    public int again(int alarm) {
        Alarm called = book.alarmOf(alarm);
        if (called == null || called.isOver || called.calls >= CALLS) {
            return NONE;
        }
        called.calls++;
        answerCall(called);
        return called.calls;
    }

    public int sent(int alarm, int i) {
        Alarm raised = book.alarmOf(alarm);
        return raised == null ? NONE : raised.companyAt(i);
    }

    public boolean over(int alarm, boolean isTrue) {
        Alarm ended = book.alarmOf(alarm);
        if (ended == null || ended.isOver) {
            return false;
        }
        ended.isOver = true;
        ended.overTrue = isTrue;
        ended.overDay = today();
        brigade.bringHome(ended);
        return true;
    }

    public int at(int company) {
        Company asked = brigade.companyOf(company);
        return asked == null || asked.isSent ? NONE : asked.stays;
    }

    public int there(int company) {
        Company asked = brigade.companyOf(company);
        return asked == null || !asked.isSent ? NONE : asked.arrives;
    }

    // ---- cover

    public int covered(int ward) {
        if (!hasBoxes(ward)) {
            return NONE;
        }
        cover.survey();
        return cover.coversWard(ward) ? 1 : 0;
    }

    public int moves() {
        return cover.fewest();
    }

    public int move(int i, int what) {
        int fewest = cover.fewest();
        if (i < 0 || i >= fewest) {
            return NONE;
        }
        return what == 0 ? cover.companyAt(i) : what == 1 ? cover.houseAt(i) : NONE;
    }

    public int done() {
        int fewest = cover.fewest();
        for (int i = 0; i < fewest; i++) {
            Company engine = brigade.companyOf(cover.companyAt(i));
            if (engine != null) {
                engine.stays = cover.houseAt(i);
            }
        }
        return fewest;
    }

    // ---- the book

    public boolean word(int alarm, boolean isTrue) {
        Alarm told = book.alarmOf(alarm);
        return told != null && told.isOver && book.addWord(alarm, today(), isTrue);
    }

    public int known(int alarm, int day) {
        return isDay(day) ? book.wordOn(alarm, day) : NONE;
    }

    public int rate(int box, int day) {
        Box asked = boxOf(box);
        return asked == null || !isDay(day) ? NONE : book.rateOn(asked, day);
    }

    public int worst(int ward) {
        int worst = NONE;
        int most = NONE;
        for (int i = 0; i < boxes.size(); i++) {
            Box box = boxes.get(i);
            int falseRate = box.ward == ward ? book.rateOn(box, today()) : NONE;
            if (falseRate > most) {
                most = falseRate;
                worst = i;
            }
        }
        return worst;
    }

    // ---- what stands

    public int look(int box, int what) throws NoSuchElementException {
        Box seen = boxOf(box);
        if (seen == null) {
            throw new NoSuchElementException();
        }
        switch (what) {
            case 0: return seen.loop;
            case 1: return seen.number;
            case 2: return seen.kind;
            case 3: return seen.ward;
            case 4: return seen.stateAt(now);
            case 5: return isDumb(seen) ? 1 : 0;
            case 6: return seen.begin;
            case 7: return seen.along;
            case 8: return seen.knocks;
            default: throw new NoSuchElementException();
        }
    }

    public int count(int what) {
        switch (what) {
            case 0: return now;
            case 1: return boxes.size();
            case 2: return brigade.houses;
            case 3: return brigade.companies.size();
            case 4: return brigade.countSent();
            case 5: return book.alarms.size();
            case 6: return book.countOpen();
            case 7: return book.words;
            case 8: return deck.lines;
            case 9: return letters.held;
            case 10: return countBoxes(2);
            case 11: return countBoxes(1);
            case 12: return countCutWires();
            default: return NONE;
        }
    }

    // ---- what the calls lean on

    private Loop loopOf(int loop) {
        return loop >= 0 && loop < loops.length ? loops[loop] : null;
    }

    private Box boxOf(int box) {
        return box >= 0 && box < boxes.size() ? boxes.get(box) : null;
    }

    private int today() {
        return now / TICKS_OF_DAY;
    }

    private boolean isDay(int day) {
        return day >= 0 && day <= today();
    }

    private boolean hasBoxes(int ward) {
        for (int i = 0; i < boxes.size(); i++) {
            if (boxes.get(i).ward == ward) {
                return true;
            }
        }
        return false;
    }

    private boolean isDumb(Box box) {
        Loop line = loopOf(box.loop);
        return line != null && line.silences(box.along);
    }

    private int countBoxes(int state) {
        int n = 0;
        for (int i = 0; i < boxes.size(); i++) {
            if (boxes.get(i).stateAt(now) == state) {
                n++;
            }
        }
        return n;
    }

    private int countCutWires() {
        int n = 0;
        for (int i = 0; i < loops.length; i++) {
            n += loops[i].countCuts();
        }
        return n;
    }

    /** The facts are taken ahead of the sending: "out" does not count those that this call sends. */
    private void answerCall(Alarm alarm) {
        Box box = alarm.box;
        writeFact(0, box.number);
        writeFact(1, box.ward);
        writeFact(2, box.loop);
        writeFact(3, now / TICKS_OF_HOUR % HOURS);
        writeFact(4, alarm.calls);
        writeFact(5, brigade.countSent());
        writeFact(6, book.rateOn(box, today()));
        int line = deck.firstThatCounts(facts);
        if (line != NONE) {
            brigade.sendOut(alarm, ENGINE, deck.enginesOf(line), now);
            brigade.sendOut(alarm, LADDER, deck.laddersOf(line), now);
        }
    }

    private void writeFact(int i, int value) {
        if (i >= 0 && i < facts.length) {
            facts[i] = value;
        }
    }

    private static boolean isPlace(int x, int y) {
        return x >= 0 && x < SIDE && y >= 0 && y < SIDE;
    }

    private static boolean isWard(int ward) {
        return ward >= 0 && ward < WARDS;
    }

    private static boolean isBoxNumber(int number) {
        if (number < 11 || number > 555) {
            return false;
        }
        int hundreds = number / 100;
        return hundreds <= 5 && isDigit(number / 10 % 10) && isDigit(number % 10);
    }

    private static boolean isDigit(int digit) {
        return digit >= 1 && digit <= 5;
    }

    /** A box: its wheel is held as bits, bit i of both words together standing for a knock i ticks behind its begin. */
    private static final class Box {
        final int number;
        final int kind;
        int index;
        int loop;
        int along;
        int x;
        int y;
        int ward;
        int knocks;
        int length;
        long early;
        long late;
        boolean waits;
        int begin = NONE;

        Box(int number, int kind) {
            this.number = number;
            this.kind = kind;
            cutWheel();
        }

        void hang(int index, int loop, int along) {
            this.index = index;
            this.loop = loop;
            this.along = along;
        }

        void stand(int x, int y, int ward) {
            this.x = x;
            this.y = y;
            this.ward = ward;
        }

        private void cutWheel() {
            long round = 0;
            int offset = 0;
            for (int part = 100; part >= 1; part /= 10) {
                int digit = number / part % 10;
                for (int k = 0; k < digit; k++) {
                    round |= 1L << offset;
                    offset += 2;
                }
                offset += digit > 0 ? 2 : 0;
                knocks += digit;
            }
            int roundLength = offset - 3;
            cutRound(round, 0);
            cutRound(round, roundLength + 6);
            cutRound(round, 2 * (roundLength + 6));
            length = 3 * roundLength + 2 * 6;
        }

        private void cutRound(long round, int start) {
            if (start == 0) {
                early |= round;
            } else if (start < 64) {
                early |= round << start;
                late |= round >>> (64 - start);
            } else {
                late |= round << (start - 64);
            }
        }

        boolean knocksBehind(int offset) {
            if (offset < 0 || offset >= 128) {
                return false;
            }
            long half = offset < 64 ? early : late;
            return (half >>> (offset & 63) & 1L) != 0;
        }

        /** The 64 ticks from "offset" on behind the begin, as bits. */
        long wheelFrom(int offset) {
            if (offset <= -64 || offset >= 128) {
                return 0;
            }
            if (offset <= 0) {
                return early << -offset;
            }
            if (offset < 64) {
                return early >>> offset | late << (64 - offset);
            }
            return late >>> (offset - 64);
        }

        /** No box has a begin later than the tick ahead, so one that was pulled just now goes on already. */
        boolean goesOn(int tick) {
            return begin != NONE && tick < begin + length;
        }

        int stateAt(int tick) {
            return waits ? 1 : goesOn(tick) ? 2 : 0;
        }
    }

    /** A loop: its boxes along it, its wires, and the ring of the latest ticks in which it knocked. */
    private static final class Loop {
        final ArrayList<Box> boxes = new ArrayList<Box>();
        private final boolean[] isCut = new boolean[BOXES_OF_LOOP + 1];
        private final int[] tape = new int[TAPE_LENGTH];
        private int held = 0;
        private int next = 0;
        private int lastKnock = -QUIET_AHEAD;
        private int firstCut = NONE;
        private int lastCut = NONE;

        boolean hasRoomFor(int number) {
            for (int i = 0; i < boxes.size(); i++) {
                if (boxes.get(i).number == number) {
                    return false;
                }
            }
            return boxes.size() < BOXES_OF_LOOP;
        }

        boolean setWire(int wire, boolean yes) {
            if (wire < 0 || wire > boxes.size() || wire >= isCut.length) {
                return false;
            }
            isCut[wire] = yes;
            findEnds();
            return true;
        }

        private void findEnds() {
            firstCut = NONE;
            lastCut = NONE;
            for (int i = 0; i < isCut.length; i++) {
                if (isCut[i]) {
                    firstCut = firstCut == NONE ? i : firstCut;
                    lastCut = i;
                }
            }
        }

        /** With one cut alone the first and the last are the same wire: no box lies between. */
        boolean silences(int along) {
            return firstCut != NONE && firstCut <= along && along < lastCut;
        }

        int countCuts() {
            int n = 0;
            for (int i = 0; i < isCut.length; i++) {
                n += isCut[i] ? 1 : 0;
            }
            return n;
        }

        /** Once no box goes on and none waits, nothing more can happen by time alone. */
        void letPass(int now, int n) {
            for (int tick = now + 1; tick <= now + n; tick++) {
                Box waiting = firstWaiting();
                boolean isBusy = hasOneOn(tick);
                if (!isBusy && waiting == null) {
                    return;
                }
                if (!isBusy && waiting != null && tick - lastKnock > QUIET_AHEAD) {
                    waiting.waits = false;
                    waiting.begin = tick;
                }
                if (isHeard(tick)) {
                    writeTape(tick);
                }
            }
        }

        private Box firstWaiting() {
            for (int i = 0; i < boxes.size(); i++) {
                if (boxes.get(i).waits) {
                    return boxes.get(i);
                }
            }
            return null;
        }

        private boolean hasOneOn(int tick) {
            for (int i = 0; i < boxes.size(); i++) {
                if (boxes.get(i).goesOn(tick)) {
                    return true;
                }
            }
            return false;
        }

        private boolean isHeard(int tick) {
            for (int i = 0; i < boxes.size(); i++) {
                Box box = boxes.get(i);
                if (box.goesOn(tick) && box.knocksBehind(tick - box.begin) && !silences(i)) {
                    return true;
                }
            }
            return false;
        }

        private void writeTape(int tick) {
            lastKnock = tick;
            if (next >= 0 && next < tape.length) {
                tape[next] = tick;
            }
            next = next + 1 < tape.length ? next + 1 : 0;
            held = held < tape.length ? held + 1 : held;
        }

        boolean hasOnTape(int tick) {
            for (int i = 0; i < held && i < tape.length; i++) {
                if (tape[i] == tick) {
                    return true;
                }
            }
            return false;
        }

        void copyTape(int from, int to, long[] bits) {
            for (int i = 0; i < held && i < tape.length; i++) {
                int offset = tape[i] - from;
                int at = offset >> 6;
                if (tape[i] <= to && at >= 0 && at < bits.length) {
                    bits[at] |= 1L << (offset & 63);
                }
            }
        }
    }

    /**
     * The latest reading. A story is kept as one number, 13 bits for each beginning in the order of the boxes
     * (4 for the box along its loop, 9 for the tick behind "from"), so that stories stand in order as numbers do.
     */
    private static final class Reading {
        private final long[] heard = new long[READ_WORDS];
        private final long[] inside = new long[READ_WORDS];
        private final long[][] open = new long[MOST_BEGINNINGS + 1][READ_WORDS];
        private final int[] picked = new int[MOST_BEGINNINGS];
        private final int[] starts = new int[MOST_BEGINNINGS];
        private final long[] keys = new long[MOST_STORIES];
        private ArrayList<Box> boxes = new ArrayList<Box>();
        private int from = 0;
        private int size = 0;
        int found = 0;

        int takeFrom(Loop line, int first, int last) {
            boxes = line.boxes;
            from = first;
            openRange(last - first + 1);
            line.copyTape(first, last, heard);
            copyWords(heard, 0);
            found = 0;
            size = 0;
            if (isExplained(0)) {
                keepKey(0);
                return 0;
            }
            for (int n = 1; n <= MOST_BEGINNINGS && found == 0; n++) {
                size = n;
                explainFrom(0);
            }
            size = found == 0 ? 0 : size;
            return found == 0 ? NONE : size;
        }

        private void openRange(int length) {
            for (int w = 0; w < inside.length && w < heard.length; w++) {
                int bits = length - 64 * w;
                inside[w] = bits >= 64 ? -1L : bits <= 0 ? 0L : (1L << bits) - 1;
                heard[w] = 0;
            }
        }

        private void copyWords(long[] words, int depth) {
            for (int w = 0; w < words.length && w < READ_WORDS; w++) {
                if (depth >= 0 && depth < open.length) {
                    open[depth][w] = words[w];
                }
            }
        }

        private long openWord(int depth, int w) {
            return depth >= 0 && depth < open.length && w >= 0 && w < READ_WORDS ? open[depth][w] : 0;
        }

        private boolean isExplained(int depth) {
            return firstOpen(depth) == NONE;
        }

        private int firstOpen(int depth) {
            for (int w = 0; w < READ_WORDS; w++) {
                long word = openWord(depth, w);
                if (word != 0) {
                    return 64 * w + Long.bitCount((word & -word) - 1);
                }
            }
            return NONE;
        }

        /** One of the beginnings not picked yet must explain the first open tick: no other ones need be tried. */
        private void explainFrom(int depth) {
            int first = firstOpen(depth);
            if (first == NONE || depth >= size || depth >= MOST_BEGINNINGS) {
                return;
            }
            for (int along = 0; along < boxes.size(); along++) {
                if (!isPicked(along, depth)) {
                    explainBy(along, first, depth);
                }
            }
        }

        private boolean isPicked(int along, int depth) {
            for (int i = 0; i < depth && i < picked.length; i++) {
                if (picked[i] == along) {
                    return true;
                }
            }
            return false;
        }

        private void explainBy(int along, int first, int depth) {
            if (along < 0 || along >= boxes.size() || depth < 0 || depth >= MOST_BEGINNINGS) {
                return;
            }
            Box box = boxes.get(along);
            for (int start = first; start >= 0 && start > first - box.length; start--) {
                if (box.knocksBehind(first - start) && fits(box, start)) {
                    picked[depth] = along;
                    starts[depth] = start;
                    strikeOut(box, start, depth);
                    goOn(depth + 1);
                }
            }
        }

        private void goOn(int depth) {
            if (depth < size) {
                explainFrom(depth);
            } else if (isExplained(depth)) {
                keepKey(keyOfPicked());
            }
        }

        private boolean fits(Box box, int start) {
            for (int w = start >> 6; w >= 0 && w < heard.length && w < inside.length; w++) {
                if ((box.wheelFrom(64 * w - start) & inside[w] & ~heard[w]) != 0) {
                    return false;
                }
            }
            return true;
        }

        private void strikeOut(Box box, int start, int depth) {
            for (int w = 0; w < READ_WORDS; w++) {
                if (depth >= 0 && depth + 1 < open.length) {
                    open[depth + 1][w] = openWord(depth, w) & ~box.wheelFrom(64 * w - start);
                }
            }
        }

        private long keyOfPicked() {
            long key = 0;
            for (int along = 0; along < BOXES_OF_LOOP; along++) {
                for (int i = 0; i < size && i < picked.length && i < starts.length; i++) {
                    if (picked[i] == along) {
                        key = key << 13 | along << 9 | starts[i];
                    }
                }
            }
            return key;
        }

        /** The same story may be found in another order of picking: it is kept once. */
        private void keepKey(long key) {
            int at = found;
            while (at > 0 && at <= keys.length && keys[at - 1] > key) {
                at--;
            }
            boolean isKept = at > 0 && at <= keys.length && keys[at - 1] == key;
            if (isKept || at < 0 || at >= keys.length) {
                return;
            }
            for (int i = found < keys.length ? found : keys.length - 1; i > at; i--) {
                keys[i] = keys[i - 1];
            }
            keys[at] = key;
            found = found < keys.length ? found + 1 : found;
        }

        boolean hasBeginning(int i, int j) {
            return i >= 0 && i < found && i < keys.length && j >= 0 && j < size;
        }

        private int beginning(int i, int j) {
            return hasBeginning(i, j) ? (int) (keys[i] >>> 13 * (size - 1 - j)) & 8191 : 0;
        }

        Box boxOfBeginning(int i, int j) {
            int along = beginning(i, j) >> 9;
            return along >= 0 && along < boxes.size() ? boxes.get(along) : null;
        }

        int tickOfBeginning(int i, int j) {
            return from + (beginning(i, j) & 511);
        }

        Box boxToAsk() {
            Box best = null;
            int least = found + 1;
            if (found < 2) {
                return null;
            }
            for (int along = 0; along < boxes.size(); along++) {
                int having = countHaving(along);
                int greater = Math.max(having, found - having);
                if (greater < least) {
                    least = greater;
                    best = boxes.get(along);
                }
            }
            return best;
        }

        private int countHaving(int along) {
            int n = 0;
            for (int i = 0; i < found; i++) {
                for (int j = 0; j < size; j++) {
                    n += beginning(i, j) >> 9 == along ? 1 : 0;
                }
            }
            return n;
        }
    }

    /** An engine or a ladder: the house that is its own, and where it stays or when it arrives. */
    private static final class Company {
        final int kind;
        final int home;
        int stays;
        boolean isSent = false;
        int arrives = 0;

        Company(int kind, int home) {
            this.kind = kind;
            this.home = home;
            this.stays = home;
        }

        boolean isIn(int ofKind) {
            return !isSent && kind == ofKind;
        }
    }

    /** The houses and the companies. */
    private static final class Brigade {
        private final int[] houseX = new int[HOUSES];
        private final int[] houseY = new int[HOUSES];
        final ArrayList<Company> companies = new ArrayList<Company>();
        int houses = 0;
        int pace = 3;
        int reach = 40;

        int addHouse(int x, int y) {
            if (houses < 0 || houses >= houseX.length || houses >= houseY.length) {
                return NONE;
            }
            houseX[houses] = x;
            houseY[houses] = y;
            houses++;
            return houses - 1;
        }

        int addCompany(int kind, int house) {
            if (house < 0 || house >= houses || companies.size() >= COMPANIES) {
                return NONE;
            }
            companies.add(new Company(kind, house));
            return companies.size() - 1;
        }

        Company companyOf(int company) {
            return company >= 0 && company < companies.size() ? companies.get(company) : null;
        }

        int wayTo(int house, Box box) {
            if (house < 0 || house >= houseX.length || house >= houseY.length) {
                return 2 * SIDE;
            }
            return Math.abs(houseX[house] - box.x) + Math.abs(houseY[house] - box.y);
        }

        int countSent() {
            int n = 0;
            for (int i = 0; i < companies.size(); i++) {
                n += companies.get(i).isSent ? 1 : 0;
            }
            return n;
        }

        void sendOut(Alarm alarm, int kind, int n, int now) {
            for (int i = 0; i < n; i++) {
                int nearest = nearestIn(kind, alarm.box);
                Company company = companyOf(nearest);
                if (company == null) {
                    return;
                }
                company.isSent = true;
                company.arrives = now + pace * wayTo(company.stays, alarm.box);
                alarm.addCompany(nearest);
            }
        }

        private int nearestIn(int kind, Box box) {
            int nearest = NONE;
            int least = 2 * SIDE;
            for (int i = 0; i < companies.size(); i++) {
                Company company = companies.get(i);
                int way = wayTo(company.stays, box);
                if (company.isIn(kind) && way < least) {
                    least = way;
                    nearest = i;
                }
            }
            return nearest;
        }

        void bringHome(Alarm alarm) {
            for (int i = 0; i < alarm.companies; i++) {
                Company company = companyOf(alarm.companyAt(i));
                if (company != null) {
                    company.isSent = false;
                    company.stays = company.home;
                }
            }
        }
    }

    /**
     * The boxes of all loops and the brigade that covers them: houses are held as bits, those with an engine in,
     * and for each box those within reach.
     */
    private static final class Cover {
        private final int[] near = new int[BOXES];
        private final int[] engines = new int[HOUSES];
        private final int[] movers = new int[2];
        private final int[] targets = new int[2];
        final Brigade brigade = new Brigade();
        final ArrayList<Box> boxes = new ArrayList<Box>();
        private int needs = 0;
        private int manned = 0;
        private int taken = 0;

        void survey() {
            needs = Math.min(boxes.size(), near.length);
            for (int i = 0; i < needs; i++) {
                near[i] = housesNear(boxes.get(i));
            }
            manned = 0;
            for (int h = 0; h < engines.length; h++) {
                engines[h] = 0;
            }
            for (int i = 0; i < brigade.companies.size(); i++) {
                Company company = brigade.companies.get(i);
                if (company.isIn(ENGINE)) {
                    putEngine(company.stays);
                }
            }
            taken = manned;
        }

        private int housesNear(Box box) {
            int bits = 0;
            for (int h = 0; h < brigade.houses; h++) {
                bits |= brigade.wayTo(h, box) <= brigade.reach ? 1 << h : 0;
            }
            return bits;
        }

        private void putEngine(int h) {
            if (h >= 0 && h < engines.length) {
                engines[h]++;
                manned |= 1 << h;
            }
        }

        private void liftEngine(int h) {
            if (h >= 0 && h < engines.length) {
                engines[h]--;
                manned &= engines[h] > 0 ? -1 : ~(1 << h);
            }
        }

        boolean coversWard(int ward) {
            for (int i = 0; i < needs && i < near.length && i < boxes.size(); i++) {
                if (boxes.get(i).ward == ward && (near[i] & manned) == 0) {
                    return false;
                }
            }
            return true;
        }

        private boolean coversAll() {
            for (int i = 0; i < needs && i < near.length; i++) {
                if ((near[i] & manned) == 0) {
                    return false;
                }
            }
            return true;
        }

        int fewest() {
            survey();
            if (coversAll()) {
                return 0;
            }
            for (int n = 1; n <= movers.length; n++) {
                if (moveOn(0, n)) {
                    return n;
                }
            }
            return NONE;
        }

        /** Tries the moves from the i-th on, of n, in the order of companies and houses: the first that serve stay. */
        private boolean moveOn(int i, int n) {
            if (i < 0 || i >= n || i >= movers.length) {
                return false;
            }
            for (int c = i > 0 ? movers[i - 1] + 1 : 0; c < brigade.companies.size(); c++) {
                Company engine = brigade.companyOf(c);
                if (engine != null && engine.isIn(ENGINE)) {
                    movers[i] = c;
                    liftEngine(engine.stays);
                    boolean serves = moveTo(i, n);
                    putEngine(engine.stays);
                    if (serves) {
                        return true;
                    }
                }
            }
            return false;
        }

        private boolean moveTo(int i, int n) {
            for (int h = 0; h < brigade.houses; h++) {
                if (i >= 0 && i < targets.length && isFree(h, i)) {
                    targets[i] = h;
                    putEngine(h);
                    boolean serves = i + 1 < n ? moveOn(i + 1, n) : coversAll();
                    liftEngine(h);
                    if (serves) {
                        return true;
                    }
                }
            }
            return false;
        }

        /** A house that an engine leaves by these moves is not free: the engine is in it till they are done. */
        private boolean isFree(int h, int i) {
            return (taken >> h & 1) == 0 && (i == 0 || houseAt(0) != h);
        }

        int companyAt(int i) {
            return i >= 0 && i < movers.length ? movers[i] : NONE;
        }

        int houseAt(int i) {
            return i >= 0 && i < targets.length ? targets[i] : NONE;
        }
    }

    /** The tape of letters. */
    private static final class Letters {
        private final char[] signs = new char[MOST_SIGNS];
        int held = 0;

        void takeBytes(long bytes) {
            for (int shift = 56; shift >= 0; shift -= 8) {
                takeSign((char) (bytes >>> shift & 255));
            }
        }

        private void takeSign(char sign) {
            boolean counts = sign == 10 || sign >= 32 && sign <= 126;
            if (counts && held >= 0 && held < signs.length) {
                signs[held] = sign;
                held++;
            }
        }

        char signAt(int i) {
            return i >= 0 && i < held && i < signs.length ? signs[i] : 0;
        }
    }

    /** Reads the tape of letters, token by token, and lays the lines down in a deck. */
    private static final class CardReader {
        private static final int END = 0;
        private static final int NO_TOKEN = 1;
        private static final int A_WORD = 2;
        private static final int A_NUMBER = 3;
        private static final int A_SIGN = 4;
        private static final int WRONG = 1;
        private static final int NOT_AS_TOLD = 4;
        private static final int TOO_MANY = 5;
        private static final int LONGEST_WORD = 8;
        private static final int LONGEST_NUMBER = 4;
        private static final int MOST_SENT = 9;
        private static final int MOST_DEPTH = 5;

        final Letters letters = new Letters();
        private Deck deck = new Deck();
        private int kind = END;
        private int place = 0;
        private int behind = 0;
        private int value = 0;
        private int amount = 0;
        private int fault = 0;

        int readLines() {
            deck.clearLines();
            behind = 0;
            fault = 0;
            nextToken();
            for (int line = 0; line <= LINES && kind != END && fault == 0; line++) {
                readLine(line);
            }
            return fault;
        }

        /** Gives the deck that was just read, and takes another one to read the next cards into. */
        Deck changeFor(Deck other) {
            Deck read = deck;
            deck = other;
            return read;
        }

        private boolean readLine(int line) {
            if (!isWord("send")) {
                return refuse(WRONG);
            }
            if (line >= LINES) {
                return refuse(TOO_MANY);
            }
            nextToken();
            if (!takeAmount()) {
                return false;
            }
            int engines = amount;
            if (!takeWord("engines") || !takeAmount()) {
                return false;
            }
            int ladders = amount;
            if (!takeWord("ladders") || !takeWord("when")) {
                return false;
            }
            deck.openLine(engines, ladders);
            return readWhole(0) && takeSign(';');
        }

        private boolean refuse(int why) {
            fault = why + 16 * place;
            return false;
        }

        private boolean takeAmount() {
            if (kind != A_NUMBER) {
                return refuse(WRONG);
            }
            if (value > MOST_SENT) {
                return refuse(NOT_AS_TOLD);
            }
            amount = value;
            nextToken();
            return true;
        }

        private boolean takeWord(String word) {
            if (!isWord(word)) {
                return refuse(WRONG);
            }
            nextToken();
            return true;
        }

        private boolean takeSign(char sign) {
            if (!isSign(sign)) {
                return refuse(WRONG);
            }
            nextToken();
            return true;
        }

        /** E of the grammar: tests, joined from the left. */
        private boolean readWhole(int depth) {
            if (!readTest(depth)) {
                return false;
            }
            for (int i = 0; i < MOST_SIGNS && (isWord("and") || isWord("or")); i++) {
                int joint = isWord("and") ? Deck.AND : Deck.OR;
                nextToken();
                if (!readTest(depth)) {
                    return false;
                }
                deck.addStep(joint);
            }
            return true;
        }

        private boolean readTest(int depth) {
            if (!readSum(depth)) {
                return false;
            }
            if (!isSign('<') && !isSign('=')) {
                return true;
            }
            int joint = isSign('<') ? Deck.LESS : Deck.EQUAL;
            nextToken();
            if (!readSum(depth)) {
                return false;
            }
            deck.addStep(joint);
            return true;
        }

        private boolean readSum(int depth) {
            if (!readPart(depth)) {
                return false;
            }
            for (int i = 0; i < MOST_SIGNS && (isSign('+') || isSign('-')); i++) {
                int joint = isSign('+') ? Deck.PLUS : Deck.MINUS;
                nextToken();
                if (!readPart(depth)) {
                    return false;
                }
                deck.addStep(joint);
            }
            return true;
        }

        /** The depth counts the "not" and "( )" around: a token that can start no part is wrong the less way first. */
        private boolean readPart(int depth) {
            boolean denies = isWord("not");
            boolean opens = isSign('(');
            int fact = factNamed();
            if (kind != A_NUMBER && fact == NONE && !denies && !opens) {
                return refuse(WRONG);
            }
            if (depth >= MOST_DEPTH) {
                return refuse(TOO_MANY);
            }
            int step = fact == NONE ? value : Deck.FIRST_FACT - fact;
            nextToken();
            if (opens || denies) {
                return readInner(opens, depth + 1);
            }
            deck.addStep(step);
            return true;
        }

        /** What stands behind "(" or "not" is read apart, as the language wants no method of an object to call itself. */
        private boolean readInner(boolean opens, int depth) {
            if (opens) {
                return readWhole(depth) && takeSign(')');
            }
            if (!readPart(depth)) {
                return false;
            }
            deck.addStep(Deck.NOT);
            return true;
        }

        private int factNamed() {
            if (kind != A_WORD) {
                return NONE;
            }
            return isWord("box") ? 0
                : isWord("ward") ? 1
                : isWord("loop") ? 2
                : isWord("hour") ? 3
                : isWord("call") ? 4
                : isWord("out") ? 5
                : isWord("false") ? 6
                : NONE;
        }

        private boolean isWord(String word) {
            if (kind != A_WORD || behind - place != word.length()) {
                return false;
            }
            for (int i = 0; i < word.length(); i++) {
                if (letters.signAt(place + i) != word.charAt(i)) {
                    return false;
                }
            }
            return true;
        }

        private boolean isSign(char sign) {
            return kind == A_SIGN && letters.signAt(place) == sign;
        }

        private void nextToken() {
            place = behind;
            while (place < letters.held && isBlank(letters.signAt(place))) {
                place++;
            }
            char first = letters.signAt(place);
            behind = place + 1;
            if (place >= letters.held) {
                behind = place;
                kind = END;
            } else if (isLetter(first)) {
                readWord();
            } else if (isNumeral(first)) {
                readNumber();
            } else {
                kind = isKnownSign(first) ? A_SIGN : NO_TOKEN;
            }
        }

        private void readWord() {
            while (behind < letters.held && isLetter(letters.signAt(behind))) {
                behind++;
            }
            kind = behind - place <= LONGEST_WORD ? A_WORD : NO_TOKEN;
        }

        private void readNumber() {
            value = letters.signAt(place) - '0';
            while (behind < letters.held && isNumeral(letters.signAt(behind))) {
                value = 10 * value + letters.signAt(behind) - '0';
                behind++;
            }
            kind = behind - place <= LONGEST_NUMBER ? A_NUMBER : NO_TOKEN;
        }

        private static boolean isBlank(char sign) {
            return sign == 10 || sign == ' ';
        }

        private static boolean isLetter(char sign) {
            return sign >= 'a' && sign <= 'z';
        }

        private static boolean isNumeral(char sign) {
            return sign >= '0' && sign <= '9';
        }

        private static boolean isKnownSign(char sign) {
            return "()<=+-;".indexOf(sign) >= 0;
        }
    }

    /** Cards as they were read: for each line what to send, and its test as steps of a reckoning on a stack. */
    private static final class Deck {
        static final int NOT = -1;
        static final int AND = -2;
        static final int OR = -3;
        static final int LESS = -4;
        static final int EQUAL = -5;
        static final int PLUS = -6;
        static final int MINUS = -7;
        /** The facts follow downwards; what is 0 and more is a number. */
        static final int FIRST_FACT = -10;
        private static final int STACK = 40;

        private final int[] engines = new int[LINES];
        private final int[] ladders = new int[LINES];
        private final int[] ends = new int[LINES];
        private final int[] steps = new int[MOST_SIGNS];
        private final int[] stack = new int[STACK];
        private int stepCount = 0;
        private int height = 0;
        int lines = 0;

        void clearLines() {
            lines = 0;
            stepCount = 0;
        }

        void openLine(int n, int m) {
            if (lines >= 0 && lines < engines.length && lines < ladders.length && lines < ends.length) {
                engines[lines] = n;
                ladders[lines] = m;
                ends[lines] = stepCount;
                lines++;
            }
        }

        void addStep(int step) {
            int line = lines - 1;
            if (stepCount >= 0 && stepCount < steps.length && line >= 0 && line < ends.length) {
                steps[stepCount] = step;
                stepCount++;
                ends[line] = stepCount;
            }
        }

        int enginesOf(int line) {
            return line >= 0 && line < engines.length ? engines[line] : 0;
        }

        int laddersOf(int line) {
            return line >= 0 && line < ladders.length ? ladders[line] : 0;
        }

        int firstThatCounts(int[] facts) {
            int start = 0;
            for (int line = 0; line < lines && line < ends.length; line++) {
                if (reckon(start, ends[line], facts) != 0) {
                    return line;
                }
                start = ends[line];
            }
            return NONE;
        }

        private int reckon(int start, int end, int[] facts) {
            height = 0;
            for (int i = start; i >= 0 && i < end && i < steps.length; i++) {
                int step = steps[i];
                if (step >= 0) {
                    push(step);
                } else if (step <= FIRST_FACT) {
                    int fact = FIRST_FACT - step;
                    push(fact < facts.length ? facts[fact] : 0);
                } else if (step == NOT) {
                    push(pop() == 0 ? 1 : 0);
                } else {
                    int right = pop();
                    push(joined(step, pop(), right));
                }
            }
            return pop();
        }

        private static int joined(int step, int left, int right) {
            switch (step) {
                case AND: return left != 0 && right != 0 ? 1 : 0;
                case OR: return left != 0 || right != 0 ? 1 : 0;
                case LESS: return left < right ? 1 : 0;
                case EQUAL: return left == right ? 1 : 0;
                case PLUS: return left + right;
                case MINUS: return left - right;
                default: return 0;
            }
        }

        private void push(int value) {
            if (height >= 0 && height < stack.length) {
                stack[height] = value;
                height++;
            }
        }

        private int pop() {
            if (height < 1 || height > stack.length) {
                return 0;
            }
            height--;
            return stack[height];
        }
    }

    /** An alarm: what was sent to it, and the word told when it was over. */
    private static final class Alarm {
        final Box box;
        final int day;
        private final int[] sentOnes = new int[COMPANIES];
        int companies = 0;
        int calls = 1;
        boolean isOver = false;
        boolean overTrue = false;
        int overDay = 0;

        Alarm(Box box, int day) {
            this.box = box;
            this.day = day;
        }

        void addCompany(int company) {
            if (companies >= 0 && companies < sentOnes.length) {
                sentOnes[companies] = company;
                companies++;
            }
        }

        int companyAt(int i) {
            return i >= 0 && i < companies && i < sentOnes.length ? sentOnes[i] : NONE;
        }
    }

    /** The book: all alarms, and the later words in the order in which they were told. */
    private static final class Book {
        final ArrayList<Alarm> alarms = new ArrayList<Alarm>();
        private final int[] wordAlarm = new int[WORDS];
        private final int[] wordDay = new int[WORDS];
        private final boolean[] wordTrue = new boolean[WORDS];
        int words = 0;

        Alarm alarmOf(int alarm) {
            return alarm >= 0 && alarm < alarms.size() ? alarms.get(alarm) : null;
        }

        int countOpen() {
            int n = 0;
            for (int i = 0; i < alarms.size(); i++) {
                n += alarms.get(i).isOver ? 0 : 1;
            }
            return n;
        }

        boolean addWord(int alarm, int day, boolean isTrue) {
            if (words < 0 || words >= wordAlarm.length || words >= wordDay.length || words >= wordTrue.length) {
                return false;
            }
            wordAlarm[words] = alarm;
            wordDay[words] = day;
            wordTrue[words] = isTrue;
            words++;
            return true;
        }

        /** 1 true, 0 false, NO_WORD; NONE if it is no alarm or not raised by then. Words come in the order of days. */
        int wordOn(int alarm, int day) {
            Alarm asked = alarmOf(alarm);
            if (asked == null || asked.day > day) {
                return NONE;
            }
            if (!asked.isOver || asked.overDay > day) {
                return NO_WORD;
            }
            boolean isTrue = asked.overTrue;
            for (int i = 0; i < words && i < wordAlarm.length && i < wordDay.length && i < wordTrue.length; i++) {
                if (wordAlarm[i] == alarm && wordDay[i] <= day) {
                    isTrue = wordTrue[i];
                }
            }
            return isTrue ? 1 : 0;
        }

        int rateOn(Box box, int day) {
            int falseOnes = 0;
            int toldOnes = 0;
            for (int i = 0; i < alarms.size(); i++) {
                int told = alarms.get(i).box == box ? wordOn(i, day) : NONE;
                falseOnes += told == 0 ? 1 : 0;
                toldOnes += told == 0 || told == 1 ? 1 : 0;
            }
            int whole = toldOnes + 2;
            return whole > 0 ? 1000 * (falseOnes + 1) / whole : NONE;
        }
    }
}
