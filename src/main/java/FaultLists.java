import java.util.NoSuchElementException;

/**
 * A circuit of gates and registers, told as a text, and all that can be stuck in it. The document's
 * promises tell what each call answers; README.md tells how the state is held.
 */
public final class FaultLists {
    public static final int NONE = -1;

    private static final int NOT_SO = -2;
    private static final int TOO_FAR = -200;

    private static final int UNKNOWN = 2;
    private static final int LINES = 12;
    private static final int PINS = 20;
    private static final int OUTPUTS = 4;
    private static final int REGISTERS = 3;
    private static final int FAULTS = 2 * (LINES + PINS);
    private static final int TICKS = 24;
    private static final int SIGNS = 80;
    private static final int MOST_TOLD = 6;
    private static final int CHAIN = 4;
    private static final int LONGEST_TEST = 6;

    private static final int INPUT = 0;
    private static final int NOT = 1;
    private static final int SAME = 2;
    private static final int AND = 3;
    private static final int OR = 4;
    private static final int ODD = 5;
    private static final int NOT_AND = 6;
    private static final int NOT_OR = 7;
    private static final int REGISTER = 8;
    private static final String FIRST_SIGNS = "!=&|^nr#";

    private final Pile text = new Pile(SIGNS);
    private final Pile told = new Pile(MOST_TOLD);
    private final Reader reader = new Reader();
    private final Run now = new Run();
    private final Run kept0 = new Run();
    private final Run kept1 = new Run();
    private boolean isKept0;
    private boolean isKept1;
    private final Run trial = new Run();
    private final Bench bench = new Bench();
    private final Side probe = new Side();
    private final Kin kin = new Kin();
    private final Search search = new Search();

    public FaultLists() {
        now.net.addInputs(1);
        now.net.addOutput(0);
        now.restart();
    }

    public int sign(int v) {
        if (text.size() + 4 > SIGNS) {
            return NONE;
        }
        for (int shift = 24; shift >= 0; shift -= 8) {
            text.add(v >>> shift & 255);
        }
        return text.size();
    }

    public boolean end(int n) {
        return text.cut(n);
    }

    public int net() {
        int answer = reader.read(text);
        text.clear();
        if (answer >= 0) {
            now.net.copy(reader.net);
            now.dropping = false;
            now.restart();
        }
        return answer;
    }

    public int cause(int k, int what) {
        if (k < 0 || k >= reader.kinds.size()) {
            return NONE;
        }
        switch (what) {
            case 0: return reader.kinds.intAt(k);
            case 1: return reader.numbers.intAt(k);
            default: return NONE;
        }
    }

    public int line(int k, int what) throws NoSuchElementException {
        Net net = now.net;
        if (!net.isLine(k)) {
            throw new NoSuchElementException();
        }
        switch (what) {
            case 0: return net.sorts.intAt(k);
            case 1: return net.widths.intAt(k);
            case 2: return net.firsts.intAt(k);
            case 3: return net.starts.intAt(k);
            case 4: return net.isOutput(k) ? 1 : 0;
            case 5: return net.readersOf(k);
            default: throw new NoSuchElementException();
        }
    }

    public int pin(int p) throws NoSuchElementException {
        if (p < 0 || p >= now.net.pins) {
            throw new NoSuchElementException();
        }
        return now.net.reads.intAt(p);
    }

    public int applies() {
        return applyText(now);
    }

    public int would() {
        trial.copy(now);
        return applyText(trial);
    }

    public int begins() {
        int had = now.ticks;
        now.restart();
        return had;
    }

    public int drops(int is) {
        if (is < 0 || is > 1) {
            return NONE;
        }
        if (now.dropping == (is == 1)) {
            return NOT_SO;
        }
        now.dropping = is == 1;
        return Long.bitCount(now.dropped);
    }

    public int value(int line) {
        if (!now.net.isLine(line)) {
            return NONE;
        }
        if (now.ticks == 0) {
            return NOT_SO;
        }
        tell(now.bench.listAt(line));
        told.add(now.bench.doubtsAt(line));
        return now.bench.good.valueAt(line, 0);
    }

    public int faulty(int fault, int line) {
        if (!now.net.isFault(fault) || !now.net.isLine(line)) {
            return NONE;
        }
        return now.ticks == 0 ? NOT_SO : now.bench.bad.valueAt(line, fault);
    }

    public int holds(int line) {
        if (!now.net.isRegister(line)) {
            return NONE;
        }
        tell(now.bench.heldOtherwise(line));
        return now.bench.good.heldAt(line, 0);
    }

    public int detected() {
        tell(now.caught);
        told.add(now.dropped);
        return Long.bitCount(now.caught);
    }

    public int when(int fault) {
        if (!now.net.isFault(fault)) {
            return NONE;
        }
        if (!hasBit(now.caught, fault)) {
            return NOT_SO;
        }
        tell(now.caughtWhere.at(fault));
        return now.caughtWhen.intAt(fault);
    }

    public int sample(int k, int r) {
        if (k < 1 || k > 8 || r < 0 || r >= k) {
            return NONE;
        }
        int above = 0;
        int below = 0;
        for (int f = r; f < now.net.faults(); f += k) {
            below++;
            above += hasBit(now.caught, f) ? 1 : 0;
        }
        if (below == 0) {
            return NOT_SO;
        }
        for (int d = below; d > 1; d--) {
            if (above % d == 0 && below % d == 0) {
                above /= d;
                below /= d;
            }
        }
        tell(above);
        told.add(below);
        return 0;
    }

    public int critical(int output) {
        Net net = now.net;
        if (!net.isOutput(output)) {
            return NONE;
        }
        if (now.ticks == 0) {
            return NOT_SO;
        }
        Side good = now.bench.good;
        probe.holdWhatGave(net, good);
        probe.tick(net, now.patterns.intAt(now.ticks - 1), net.allFaults());
        long turned = Bench.otherKnown(probe, good, output);
        int lines = 0;
        for (int k = 0; k < net.lines; k++) {
            int is = good.valueAt(k, 0);
            // a line stuck at the other value is that line alone turned over
            if (is != UNKNOWN && hasBit(turned, 2 * k + 1 - is)) {
                lines |= 1 << k;
            }
        }
        tell(Integer.bitCount(lines));
        return lines;
    }

    public int classes() {
        kin.gather(now.net);
        int number = 0;
        long largest = 0;
        for (int f = 0; f < now.net.faults(); f++) {
            long like = kin.of.at(f);
            // each class is counted at its least fault
            if ((like & (1L << f) - 1) == 0) {
                number++;
                largest = Long.bitCount(like) > Long.bitCount(largest) ? like : largest;
            }
        }
        tell(largest);
        return number;
    }

    public int classOf(int fault) {
        if (!now.net.isFault(fault)) {
            return NONE;
        }
        kin.gather(now.net);
        tell(kin.of.at(fault));
        return Long.bitCount(kin.of.at(fault));
    }

    public int tests(int fault) {
        if (!now.net.isFault(fault)) {
            return NONE;
        }
        search.forget();
        int length = search.fewest(now.net, fault);
        if (length == 0) {
            return NOT_SO;
        }
        told.clear();
        for (int i = 0; i < length; i++) {
            told.add(search.found.at(i));
        }
        return length;
    }

    public int hidden() {
        long none = 0;
        long hardest = 0;
        int greatest = 0;
        search.forget();
        for (int f = 0; f < now.net.faults(); f++) {
            int length = search.fewest(now.net, f);
            if (length == 0) {
                none |= 1L << f;
            } else if (length >= greatest) {
                hardest = length > greatest ? 1L << f : hardest | 1L << f;
                greatest = length;
            }
        }
        tell(none);
        told.add(hardest);
        told.add(greatest);
        return Long.bitCount(none);
    }

    public int needless() {
        int every = (1 << now.ticks) - 1;
        int without = 0;
        for (int t = 0; t < now.ticks; t++) {
            if (catchesAll(every & ~(1 << t))) {
                without |= 1 << t;
            }
        }
        tell(without);
        return Integer.bitCount(without);
    }

    public int shorter() {
        int left = (1 << now.ticks) - 1;
        for (int t = now.ticks - 1; t >= 0; t--) {
            if (catchesAll(left & ~(1 << t))) {
                left &= ~(1 << t);
            }
        }
        tell(left);
        return Integer.bitCount(left);
    }

    public int blames() {
        int bad = badSign(now.net.outputs, now.ticks * now.net.outputs);
        int answer = bad == NONE ? blameBySeen() : -1 - bad;
        text.clear();
        return answer;
    }

    public int parts() {
        Net net = now.net;
        if (Long.bitCount(now.suspects) < 2) {
            return NOT_SO;
        }
        bench.start(net);
        for (int t = 0; t < now.ticks; t++) {
            bench.tick(net, now.patterns.intAt(t), net.allFaults());
        }
        int best = 0;
        int least = FAULTS + 1;
        for (int number = 0; number < 1 << net.inputs; number++) {
            probe.copy(bench.bad);
            probe.tick(net, net.patternOf(number), net.allFaults());
            int most = largestAlike(probe);
            if (most < least) {
                least = most;
                best = number;
            }
        }
        tell(least);
        return best;
    }

    public int drawn(int seed, int n) {
        if (n < 1 || n > TICKS) {
            return NONE;
        }
        Net net = now.net;
        int drawing = seed;
        long caught = 0;
        int last = NONE;
        bench.start(net);
        for (int t = 0; t < n; t++) {
            int pattern = 0;
            for (int k = 0; k < net.inputs; k++) {
                drawing = drawing * 1103515245 + 12345;
                pattern |= (drawing >>> 16) % 2 << 2 * k;
            }
            bench.tick(net, pattern, net.allFaults());
            long shown = bench.shown(net);
            last = (shown & ~caught) != 0 ? t : last;
            caught |= shown;
        }
        tell(caught);
        told.add(last);
        return Long.bitCount(caught);
    }

    public boolean keep(int i) {
        switch (i) {
            case 0:
                kept0.copy(now);
                isKept0 = true;
                return true;
            case 1:
                kept1.copy(now);
                isKept1 = true;
                return true;
            default:
                return false;
        }
    }

    public boolean again(int i) {
        if (i == 0 && isKept0) {
            now.copy(kept0);
            return true;
        }
        if (i == 1 && isKept1) {
            now.copy(kept1);
            return true;
        }
        return false;
    }

    public int count(int what) {
        switch (what) {
            case 0: return now.net.lines;
            case 1: return now.net.inputs;
            case 2: return now.net.registers;
            case 3: return now.net.pins;
            case 4: return now.net.outputs;
            case 5: return now.net.faults();
            case 6: return now.ticks;
            case 7: return Long.bitCount(now.caught);
            case 8: return now.dropping ? 1 : 0;
            case 9: return Long.bitCount(now.suspects);
            case 10: return now.ticks == 0 ? 0 : now.bench.lengthOfLists(now.net);
            case 11: return told.size();
            case 12: return text.size();
            default: return NONE;
        }
    }

    public long row(int i) throws NoSuchElementException {
        if (i < 0 || i >= told.size()) {
            throw new NoSuchElementException();
        }
        return told.at(i);
    }

    private static boolean hasBit(long bits, int i) {
        return (bits >>> i & 1) != 0;
    }

    /** The value that a sign of a pattern, or of what was seen, tells; NONE for another sign. */
    private static int valueOfSign(long sign) {
        return sign == '0' ? 0 : sign == '1' ? 1 : sign == 'u' ? UNKNOWN : NONE;
    }

    /** The row is this number, and those that are added behind it. */
    private void tell(long number) {
        told.clear();
        told.add(number);
    }

    /**
     * Where the text stops being values in whole groups, at most so many signs; NONE if it does not.
     */
    private int badSign(int group, int most) {
        int within = 0;
        for (int p = 0; p < text.size(); p++) {
            if (p >= most || valueOfSign(text.at(p)) == NONE) {
                return p;
            }
            within = within + 1 == group ? 0 : within + 1;
        }
        return within == 0 ? NONE : text.size();
    }

    private int applyText(Run run) {
        int inputs = run.net.inputs;
        int bad = badSign(inputs, SIGNS);
        int answer;
        if (bad != NONE) {
            answer = -1 - bad;
        } else if (run.ticks * inputs + text.size() > TICKS * inputs) {
            answer = TOO_FAR;
        } else {
            long before = run.caught;
            for (int t = 0; t < TICKS && t * inputs < text.size(); t++) {
                run.tick(patternAt(t * inputs, inputs));
            }
            tell(run.caught & ~before);
            answer = Long.bitCount(run.caught & ~before);
        }
        text.clear();
        return answer;
    }

    /** The pattern that the text tells from a place on: two bits of each input, its value. */
    private int patternAt(int place, int inputs) {
        int pattern = 0;
        for (int k = 0; k < inputs; k++) {
            pattern |= (valueOfSign(text.at(place + k)) & 3) << 2 * k;
        }
        return pattern;
    }

    /** Whether the run of these ticks alone would detect all that are detected. */
    private boolean catchesAll(int ticks) {
        Net net = now.net;
        long missed = now.caught;
        bench.start(net);
        for (int t = 0; t < now.ticks && missed != 0; t++) {
            if (hasBit(ticks, t)) {
                bench.tick(net, now.patterns.intAt(t), net.allFaults());
                missed &= ~bench.shown(net);
            }
        }
        return missed == 0;
    }

    private int blameBySeen() {
        Net net = now.net;
        long fitting = net.allFaults();
        long goodFitting = -1L;
        bench.start(net);
        for (int t = 0; t < now.ticks && t * net.outputs < text.size(); t++) {
            bench.tick(net, now.patterns.intAt(t), net.allFaults());
            for (int j = 0; j < net.outputs; j++) {
                int seen = valueOfSign(text.at(t * net.outputs + j));
                int line = net.outs.intAt(j);
                fitting &= ~bench.bad.otherThan(line, seen);
                goodFitting &= ~bench.good.otherThan(line, seen);
            }
        }
        now.suspects = fitting;
        tell(fitting);
        told.add(goodFitting & 1);
        return Long.bitCount(fitting);
    }

    /** The greatest number of suspects that have like values at all outputs. */
    private int largestAlike(Side side) {
        int most = 0;
        long rest = now.suspects;
        for (int f = 0; f < FAULTS; f++) {
            if (hasBit(rest, f)) {
                long alike = rest & side.asAtOutputs(now.net, f);
                most = Math.max(most, Long.bitCount(alike));
                rest &= ~alike;
            }
        }
        return most;
    }

    /** Numbers by their places: an index is looked at here, and used nowhere else. */
    private static final class Cells {
        private final long[] cells;

        Cells(int room) {
            cells = new long[room < 0 ? 0 : room];
        }

        long at(int i) {
            return i >= 0 && i < cells.length ? cells[i] : 0;
        }

        int intAt(int i) {
            return i >= 0 && i < cells.length ? (int) cells[i] : 0;
        }

        void put(int i, long number) {
            if (i >= 0 && i < cells.length) {
                cells[i] = number;
            }
        }

        void fill(long number) {
            for (int i = 0; i < cells.length; i++) {
                cells[i] = number;
            }
        }

        void copy(Cells other) {
            for (int i = 0; i < cells.length && i < other.cells.length; i++) {
                cells[i] = other.cells[i];
            }
        }
    }

    /** Numbers one behind another, up to a room. */
    private static final class Pile {
        private final Cells cells;
        private final int room;
        private int size;

        Pile(int room) {
            this.room = room;
            cells = new Cells(room);
        }

        int size() {
            return size;
        }

        long at(int i) {
            return cells.at(i);
        }

        int intAt(int i) {
            return cells.intAt(i);
        }

        void add(long number) {
            if (size < room) {
                cells.put(size, number);
                size++;
            }
        }

        boolean cut(int n) {
            if (n < 0 || n > size) {
                return false;
            }
            size = n;
            return true;
        }

        void clear() {
            size = 0;
        }
    }

    /** The lines, their pins, and which of them are outputs. */
    private static final class Net {
        int inputs;
        int lines;
        int pins;
        int registers;
        int outputs;
        final Cells sorts = new Cells(LINES);
        final Cells widths = new Cells(LINES);
        final Cells firsts = new Cells(LINES);
        final Cells starts = new Cells(LINES);
        final Cells reads = new Cells(PINS);
        final Cells outs = new Cells(OUTPUTS);

        void clear() {
            inputs = 0;
            lines = 0;
            pins = 0;
            registers = 0;
            outputs = 0;
        }

        void copy(Net other) {
            inputs = other.inputs;
            lines = other.lines;
            pins = other.pins;
            registers = other.registers;
            outputs = other.outputs;
            sorts.copy(other.sorts);
            widths.copy(other.widths);
            firsts.copy(other.firsts);
            starts.copy(other.starts);
            reads.copy(other.reads);
            outs.copy(other.outs);
        }

        void addInputs(int number) {
            for (int k = 0; k < number && lines < LINES; k++) {
                addLine(INPUT, NONE, NONE);
                inputs++;
            }
        }

        /** A line of a sort; its pins are those that were added from the first one on. */
        void addLine(int sort, int firstPin, int start) {
            sorts.put(lines, sort);
            firsts.put(lines, firstPin);
            widths.put(lines, firstPin == NONE ? 0 : pins - firstPin);
            starts.put(lines, start);
            lines++;
            registers += sort == REGISTER ? 1 : 0;
        }

        void addPin(int line) {
            reads.put(pins, line);
            pins++;
        }

        void addOutput(int line) {
            outs.put(outputs, line);
            outputs++;
        }

        int faults() {
            return 2 * (lines + pins);
        }

        long allFaults() {
            return faults() >= FAULTS ? -1L : (1L << faults()) - 1;
        }

        int pinFault(int p, int stuckAt) {
            return 2 * (lines + p) + stuckAt;
        }

        boolean isFault(int f) {
            return f >= 0 && f < faults();
        }

        boolean isLine(int k) {
            return k >= 0 && k < lines;
        }

        boolean isRegister(int k) {
            return isLine(k) && sorts.intAt(k) == REGISTER;
        }

        boolean isOutput(int k) {
            for (int j = 0; j < outputs; j++) {
                if (outs.intAt(j) == k) {
                    return true;
                }
            }
            return false;
        }

        int readersOf(int k) {
            int readers = 0;
            for (int p = 0; p < pins; p++) {
                readers += reads.intAt(p) == k ? 1 : 0;
            }
            return readers;
        }

        /** Whether a gate of this sort gives the other of what its pins come to. */
        static boolean turns(int sort) {
            return sort == NOT || sort == NOT_AND || sort == NOT_OR;
        }

        /** The pattern of 0 and 1 that a number tells, the first input its highest binary digit. */
        int patternOf(int number) {
            int pattern = 0;
            for (int k = 0; k < inputs; k++) {
                pattern |= (number >> inputs - 1 - k & 1) << 2 * k;
            }
            return pattern;
        }
    }

    /** Reads a net's text, and tells why it can't be one. */
    private static final class Reader {
        private static final int A_NET = 1;
        private static final int A_LINE = 2;
        private static final int A_SIGN = 3;
        private static final int NO_ROOM = 4;
        private static final int A_NAME = 5;
        private static final int THE_END = -1;

        final Net net = new Net();
        final Pile kinds = new Pile(CHAIN);
        final Pile numbers = new Pile(CHAIN);
        private int place;
        private boolean refused;

        int read(Pile text) {
            net.clear();
            kinds.clear();
            numbers.clear();
            place = 0;
            refused = false;
            readInputs(text);
            for (int i = 0; i < SIGNS && !refused && signOf(text) == ';'; i++) {
                place++;
                readLine(text);
            }
            if (!refused) {
                readOutputs(text);
            }
            return refused ? -1 - place : askRegisters();
        }

        private int signOf(Pile text) {
            return place < text.size() ? text.intAt(place) : THE_END;
        }

        private int letterOf(Pile text) {
            int line = signOf(text) - 'a';
            return line >= 0 && line < LINES ? line : NONE;
        }

        private void readInputs(Pile text) {
            int sign = signOf(text);
            if (sign < '1' || sign > '4') {
                refuse(false, A_SIGN, place);
                return;
            }
            net.addInputs(sign - '0');
            place++;
        }

        private void readLine(Pile text) {
            int sign = signOf(text);
            int sort = sign == THE_END ? 0 : 1 + FIRST_SIGNS.indexOf((char) sign);
            if (sort == 0) {
                refuse(false, A_SIGN, place);
                return;
            }
            if (net.lines >= LINES || sort == REGISTER && net.registers >= REGISTERS) {
                refuse(true, NO_ROOM, place);
                return;
            }
            place++;
            int firstPin = net.pins;
            boolean single = sort == NOT || sort == SAME || sort == REGISTER;
            readPin(text, sort);
            if (!refused && !single) {
                readPin(text, sort);
            }
            if (!refused && !single && letterOf(text) != NONE) {
                readPin(text, sort);
            }
            if (!refused) {
                net.addLine(sort, firstPin, sort == REGISTER ? readStart(text) : NONE);
            }
        }

        private void readPin(Pile text, int sort) {
            int letter = letterOf(text);
            if (letter == NONE) {
                refuse(true, A_SIGN, place);
            } else if (sort != REGISTER && letter >= net.lines) {
                refuse(true, A_NAME, letter);
            } else if (net.pins >= PINS) {
                refuse(true, NO_ROOM, place);
            } else {
                net.addPin(letter);
                place++;
            }
        }

        private int readStart(Pile text) {
            int sign = signOf(text);
            if (sign != '0' && sign != '1') {
                return UNKNOWN;
            }
            place++;
            return sign - '0';
        }

        private void readOutputs(Pile text) {
            if (signOf(text) != ':') {
                refuse(false, A_SIGN, place);
                return;
            }
            place++;
            readOutput(text);
            for (int i = 0; i < SIGNS && !refused && place < text.size(); i++) {
                readOutput(text);
            }
        }

        private void readOutput(Pile text) {
            int letter = letterOf(text);
            if (letter == NONE) {
                refuse(false, A_SIGN, place);
            } else if (letter >= net.lines || net.isOutput(letter)) {
                refuse(false, A_NAME, letter);
            } else if (net.outputs >= OUTPUTS) {
                refuse(false, NO_ROOM, place);
            } else {
                net.addOutput(letter);
                place++;
            }
        }

        /** How many faults there are, if each register reads a line; a register may read a later one. */
        private int askRegisters() {
            for (int k = 0; k < net.lines; k++) {
                int letter = net.reads.intAt(net.firsts.intAt(k));
                if (net.isRegister(k) && letter >= net.lines) {
                    because(A_NET, net.lines);
                    because(A_LINE, k);
                    because(A_NAME, letter);
                    return TOO_FAR;
                }
            }
            return net.faults();
        }

        private void refuse(boolean withinLine, int kind, int number) {
            refused = true;
            because(A_NET, net.lines);
            if (withinLine) {
                because(A_LINE, net.lines);
            }
            because(kind, number);
            if (kind == A_NAME) {
                because(A_SIGN, place);
            }
        }

        private void because(int kind, int number) {
            kinds.add(kind);
            numbers.add(number);
        }
    }

    /**
     * The values of a tick by 64 circuits side by side, one bit each: bit f stands for the circuit
     * with fault f, if that is live, else for the good one. A value is 1 where the ones have the bit,
     * 0 where the zeros have it, and not known where neither has.
     */
    private static final class Side {
        final Cells ones = new Cells(LINES);
        final Cells zeros = new Cells(LINES);
        final Cells heldOnes = new Cells(LINES);
        final Cells heldZeros = new Cells(LINES);

        void copy(Side other) {
            ones.copy(other.ones);
            zeros.copy(other.zeros);
            heldOnes.copy(other.heldOnes);
            heldZeros.copy(other.heldZeros);
        }

        void start(Net net) {
            for (int k = net.inputs; k < net.lines; k++) {
                hold(k, net.starts.intAt(k));
            }
        }

        void hold(int k, int value) {
            heldOnes.put(k, value == 1 ? -1L : 0L);
            heldZeros.put(k, value == 0 ? -1L : 0L);
        }

        /** Registers hold what they gave at the other's tick, as they did ahead of it. */
        void holdWhatGave(Net net, Side other) {
            for (int k = net.inputs; k < net.lines; k++) {
                heldOnes.put(k, other.ones.at(k));
                heldZeros.put(k, other.zeros.at(k));
            }
        }

        /** These circuits hold from now on what the other's hold. */
        void holdAs(Side other, long circuits) {
            for (int k = 0; k < LINES; k++) {
                heldOnes.put(k, heldOnes.at(k) & ~circuits | other.heldOnes.at(k) & circuits);
                heldZeros.put(k, heldZeros.at(k) & ~circuits | other.heldZeros.at(k) & circuits);
            }
        }

        void tick(Net net, int pattern, long live) {
            for (int k = 0; k < net.lines; k++) {
                int sort = net.sorts.intAt(k);
                if (sort == INPUT) {
                    int value = pattern >> 2 * k & 3;
                    ones.put(k, value == 1 ? -1L : 0L);
                    zeros.put(k, value == 0 ? -1L : 0L);
                } else if (sort == REGISTER) {
                    ones.put(k, heldOnes.at(k));
                    zeros.put(k, heldZeros.at(k));
                } else {
                    work(net, k, live, ones, zeros);
                }
                stick(k, live);
            }
            for (int k = net.inputs; k < net.lines; k++) {
                if (net.isRegister(k)) {
                    work(net, k, live, heldOnes, heldZeros);
                }
            }
        }

        /** What a line's pins come to; a single one, a register's too, comes to what it reads by "and". */
        private void work(Net net, int k, long live, Cells toOnes, Cells toZeros) {
            int sort = net.sorts.intAt(k);
            int first = net.firsts.intAt(k);
            int behind = first + net.widths.intAt(k);
            long allOne = -1L;
            long someOne = 0;
            long allZero = -1L;
            long someZero = 0;
            long odd = 0;
            long known = -1L;
            for (int p = first; p < behind; p++) {
                int from = net.reads.intAt(p);
                long low = live & 1L << net.pinFault(p, 0);
                long high = live & 1L << net.pinFault(p, 1);
                long one = ones.at(from) & ~low | high;
                long zero = zeros.at(from) & ~high | low;
                allOne &= one;
                someOne |= one;
                allZero &= zero;
                someZero |= zero;
                odd ^= one;
                known &= one | zero;
            }
            boolean either = sort == OR || sort == NOT_OR;
            long one = sort == ODD ? odd & known : either ? someOne : allOne;
            long zero = sort == ODD ? ~odd & known : either ? allZero : someZero;
            boolean turned = Net.turns(sort);
            toOnes.put(k, turned ? zero : one);
            toZeros.put(k, turned ? one : zero);
        }

        private void stick(int k, long live) {
            long low = live & 1L << 2 * k;
            long high = live & 2L << 2 * k;
            ones.put(k, ones.at(k) & ~low | high);
            zeros.put(k, zeros.at(k) & ~high | low);
        }

        int valueAt(int k, int circuit) {
            return hasBit(ones.at(k), circuit) ? 1 : hasBit(zeros.at(k), circuit) ? 0 : UNKNOWN;
        }

        int heldAt(int k, int circuit) {
            return hasBit(heldOnes.at(k), circuit) ? 1 : hasBit(heldZeros.at(k), circuit) ? 0 : UNKNOWN;
        }

        /** The circuits whose value is the other one of 0 and 1 than was seen; none, if nothing was. */
        long otherThan(int k, int seen) {
            return seen == 0 ? ones.at(k) : seen == 1 ? zeros.at(k) : 0;
        }

        /** The circuits that have at all outputs the values that this one has. */
        long asAtOutputs(Net net, int circuit) {
            long alike = -1L;
            for (int j = 0; j < net.outputs; j++) {
                long one = ones.at(net.outs.intAt(j));
                long zero = zeros.at(net.outs.intAt(j));
                alike &= hasBit(one, circuit) ? one : ~one;
                alike &= hasBit(zero, circuit) ? zero : ~zero;
            }
            return alike;
        }
    }

    /** The good circuit, in all bits of one side, against those with a fault. */
    private static final class Bench {
        final Side good = new Side();
        final Side bad = new Side();

        void copy(Bench other) {
            good.copy(other.good);
            bad.copy(other.bad);
        }

        void start(Net net) {
            good.start(net);
            bad.start(net);
        }

        void tick(Net net, int pattern, long live) {
            good.tick(net, pattern, 0L);
            bad.tick(net, pattern, live);
        }

        static long otherKnown(Side a, Side b, int k) {
            return a.ones.at(k) & b.zeros.at(k) | a.zeros.at(k) & b.ones.at(k);
        }

        long listAt(int k) {
            return otherKnown(bad, good, k);
        }

        long doubtsAt(int k) {
            return (bad.ones.at(k) | bad.zeros.at(k)) ^ (good.ones.at(k) | good.zeros.at(k));
        }

        long heldOtherwise(int k) {
            return bad.heldOnes.at(k) ^ good.heldOnes.at(k) | bad.heldZeros.at(k) ^ good.heldZeros.at(k);
        }

        /** The faults that show at an output. */
        long shown(Net net) {
            long faults = 0;
            for (int j = 0; j < net.outputs; j++) {
                faults |= listAt(net.outs.intAt(j));
            }
            return faults;
        }

        int lengthOfLists(Net net) {
            int length = 0;
            for (int k = 0; k < net.lines; k++) {
                length += Long.bitCount(listAt(k));
            }
            return length;
        }
    }

    /** All that is kept: the net, the run, whether faults are dropped, the suspects. */
    private static final class Run {
        final Net net = new Net();
        final Bench bench = new Bench();
        final Cells patterns = new Cells(TICKS);
        int ticks;
        boolean dropping;
        long caught;
        long dropped;
        long suspects;
        final Cells caughtWhen = new Cells(FAULTS);
        final Cells caughtWhere = new Cells(FAULTS);

        void copy(Run other) {
            net.copy(other.net);
            bench.copy(other.bench);
            patterns.copy(other.patterns);
            ticks = other.ticks;
            dropping = other.dropping;
            caught = other.caught;
            dropped = other.dropped;
            suspects = other.suspects;
            caughtWhen.copy(other.caughtWhen);
            caughtWhere.copy(other.caughtWhere);
        }

        void restart() {
            ticks = 0;
            caught = 0;
            dropped = 0;
            suspects = 0;
            bench.start(net);
        }

        void tick(int pattern) {
            bench.tick(net, pattern, net.allFaults() & ~dropped);
            long shown = bench.shown(net);
            note(shown & ~caught);
            if (dropping) {
                dropped |= shown;
                bench.bad.holdAs(bench.good, shown);
            }
            patterns.put(ticks, pattern);
            ticks++;
        }

        private void note(long fresh) {
            for (int f = 0; f < FAULTS; f++) {
                if (hasBit(fresh, f)) {
                    caughtWhen.put(f, ticks);
                    caughtWhere.put(f, outputsShowing(f));
                }
            }
            caught |= fresh;
        }

        private long outputsShowing(int fault) {
            long lines = 0;
            for (int j = 0; j < net.outputs; j++) {
                int k = net.outs.intAt(j);
                lines |= hasBit(bench.listAt(k), fault) ? 1L << k : 0;
            }
            return lines;
        }
    }

    /** Of each fault the class of those that are like it, by rules. */
    private static final class Kin {
        final Cells of = new Cells(FAULTS);

        void gather(Net net) {
            for (int f = 0; f < FAULTS; f++) {
                of.put(f, 1L << f);
            }
            for (int k = 0; k < net.lines; k++) {
                int first = net.firsts.intAt(k);
                int behind = first + net.widths.intAt(k);
                for (int p = first; p < behind; p++) {
                    joinThroughGate(net, k, p);
                }
            }
            for (int p = 0; p < net.pins; p++) {
                int k = net.reads.intAt(p);
                if (net.readersOf(k) == 1 && !net.isOutput(k)) {
                    join(2 * k, net.pinFault(p, 0));
                    join(2 * k + 1, net.pinFault(p, 1));
                }
            }
        }

        private void joinThroughGate(Net net, int k, int p) {
            int sort = net.sorts.intAt(k);
            int turn = Net.turns(sort) ? 1 : 0;
            boolean single = sort == NOT || sort == SAME;
            if (single || sort == AND || sort == NOT_AND) {
                join(net.pinFault(p, 0), 2 * k + turn);
            }
            if (single || sort == OR || sort == NOT_OR) {
                join(net.pinFault(p, 1), 2 * k + 1 - turn);
            }
        }

        private void join(int a, int b) {
            long both = of.at(a) | of.at(b);
            for (int f = 0; f < FAULTS; f++) {
                if (hasBit(both, f)) {
                    of.put(f, both);
                }
            }
        }
    }

    /**
     * What follows when registers hold a state and a pattern of 0 and 1 comes, by 64 circuits side by
     * side. A state is a number of base 3, a digit for each register.
     */
    private static final class Moves {
        static final int STATES = 27;
        private static final int NUMBERS = 16;
        private static final int ENTRIES = STATES * NUMBERS;
        private static final int WIDTH = REGISTERS + OUTPUTS;

        private final Side side = new Side();
        private final Cells made = new Cells(ENTRIES);
        private final Cells ones = new Cells(ENTRIES * WIDTH);
        private final Cells zeros = new Cells(ENTRIES * WIDTH);

        void forget() {
            made.fill(0);
        }

        static int startOf(Net net) {
            int state = 0;
            int power = 1;
            for (int k = net.inputs; k < net.lines; k++) {
                if (net.isRegister(k)) {
                    state += power * net.starts.intAt(k);
                    power *= 3;
                }
            }
            return state;
        }

        /** The entry of a state and a pattern; the circuits run only when it is asked for first. */
        int entry(Net net, int state, int number, long live) {
            int entry = state * NUMBERS + number;
            if (made.at(entry) == 0) {
                made.put(entry, 1);
                holdState(net, state);
                side.tick(net, net.patternOf(number), live);
                write(net, entry * WIDTH);
            }
            return entry;
        }

        private void holdState(Net net, int state) {
            int rest = state;
            for (int k = net.inputs; k < net.lines; k++) {
                if (net.isRegister(k)) {
                    side.hold(k, rest % 3);
                    rest /= 3;
                }
            }
        }

        private void write(Net net, int from) {
            int place = from;
            for (int k = net.inputs; k < net.lines; k++) {
                if (net.isRegister(k)) {
                    ones.put(place, side.heldOnes.at(k));
                    zeros.put(place, side.heldZeros.at(k));
                    place++;
                }
            }
            for (int j = 0; j < net.outputs; j++) {
                int k = net.outs.intAt(j);
                ones.put(from + REGISTERS + j, side.ones.at(k));
                zeros.put(from + REGISTERS + j, side.zeros.at(k));
            }
        }

        int stateBehind(Net net, int entry, int circuit) {
            int state = 0;
            int power = 1;
            for (int i = 0; i < net.registers; i++) {
                int place = entry * WIDTH + i;
                int digit = hasBit(ones.at(place), circuit) ? 1 : hasBit(zeros.at(place), circuit) ? 0 : UNKNOWN;
                state += power * digit;
                power *= 3;
            }
            return state;
        }

        /** Whether one of the outputs is 0 or 1 by the good circuit and the other one by this circuit. */
        boolean shows(Net net, int entry, int circuit, Moves good, int goodEntry) {
            long other = 0;
            for (int j = 0; j < net.outputs; j++) {
                int place = entry * WIDTH + REGISTERS + j;
                int goodPlace = goodEntry * WIDTH + REGISTERS + j;
                other |= ones.at(place) & good.zeros.at(goodPlace) | zeros.at(place) & good.ones.at(goodPlace);
            }
            return hasBit(other, circuit);
        }
    }

    /**
     * The shortest row of patterns that shows a fault: pairs of states, of the good circuit and of the
     * faulty one, are gone through by how many patterns lead to them, and of as many by the least row.
     */
    private static final class Search {
        private static final int PAIRS = Moves.STATES * Moves.STATES;

        final Cells found = new Cells(LONGEST_TEST);
        private final Moves good = new Moves();
        private final Moves bad = new Moves();
        private final Cells seen = new Cells(PAIRS);
        private final Cells pairs = new Cells(PAIRS);
        private final Cells depths = new Cells(PAIRS);
        private final Cells parents = new Cells(PAIRS);
        private final Cells numbers = new Cells(PAIRS);
        private int size;

        /** To be called ahead of searches in a net that may be another one than before. */
        void forget() {
            good.forget();
            bad.forget();
        }

        /** How many patterns it takes (they are found); 0 if there is no such row. */
        int fewest(Net net, int fault) {
            int start = Moves.startOf(net);
            seen.fill(0);
            size = 0;
            reach(start * Moves.STATES + start, 0, NONE, 0);
            for (int i = 0; i < size && i < PAIRS; i++) {
                int depth = depths.intAt(i);
                if (depth >= LONGEST_TEST) {
                    return 0;
                }
                for (int number = 0; number < 1 << net.inputs; number++) {
                    if (follow(net, fault, i, number)) {
                        trace(i, depth, number);
                        return depth + 1;
                    }
                }
            }
            return 0;
        }

        /** Whether the fault shows by this pattern; else the pair that it leads to is reached. */
        private boolean follow(Net net, int fault, int from, int number) {
            int pair = pairs.intAt(from);
            int goodEntry = good.entry(net, pair / Moves.STATES, number, 0L);
            int entry = bad.entry(net, pair % Moves.STATES, number, net.allFaults());
            if (bad.shows(net, entry, fault, good, goodEntry)) {
                return true;
            }
            int goodState = good.stateBehind(net, goodEntry, 0);
            int state = bad.stateBehind(net, entry, fault);
            reach(goodState * Moves.STATES + state, depths.intAt(from) + 1, from, number);
            return false;
        }

        private void reach(int pair, int depth, int parent, int number) {
            if (seen.at(pair) == 0) {
                seen.put(pair, 1);
                pairs.put(size, pair);
                depths.put(size, depth);
                parents.put(size, parent);
                numbers.put(size, number);
                size++;
            }
        }

        private void trace(int last, int depth, int number) {
            int place = last;
            found.put(depth, number);
            for (int i = depth - 1; i >= 0; i--) {
                found.put(i, numbers.at(place));
                place = parents.intAt(place);
            }
        }
    }
}
